/-! in which order all ought to come -/
def jcs (n0 : Nat) (q : Int × (Int → Int)) (c : Int) : Int × (Int → Int) := (q.1 + jt_y q.2 c n0, jt_come q.2 c)
def jcl (t : Int → Int) (p : List Int) : Int × (Int → Int) := p.foldl (jcs (t 0).toNat) (0, t)
theorem jcl_app {t : Int → Int} {p : List Int} {c : Int} : jcl t (p ++ [c]) = jcs (t 0).toNat (jcl t p) c := by
  unfold jcl
  rw [List.foldl_append]
  rfl
theorem jcl_inv0 {t : Int → Int} {K : Int} (h0 : t 0 ≤ 4) (h1 : t 1 ≤ 6) : ∀ (p : List Int) (q : Int × (Int → Int)) (m : Nat), (∀ c ∈ p, 0 ≤ c ∧ c < t 1) → jt_wf q.2 ∧ jS t q.2 (fun p => p) ∧ jt_cf q.2 (K + m) ∧ (0 ≤ q.1 ∧ q.1 ≤ 60 * m) → jt_wf (p.foldl (jcs (t 0).toNat) q).2 ∧ jS t (p.foldl (jcs (t 0).toNat) q).2 (fun p => p) ∧ jt_cf (p.foldl (jcs (t 0).toNat) q).2 (K + (m + p.length : Nat)) ∧ (0 ≤ (p.foldl (jcs (t 0).toNat) q).1 ∧ (p.foldl (jcs (t 0).toNat) q).1 ≤ 60 * (m + p.length : Nat))
  | [], q, m, _, h => h
  | c :: r, q, m, hp, ⟨a, b, d, e⟩ => by
    have hc := hp c (List.mem_cons_self)
    have y := jt_y_r a (c := c) hc.1 (by omega) (t 0).toNat (by have := a.1; have := b.1; omega)
    have i := jcl_inv0 (K := K) h0 h1 r (jcs (t 0).toNat q c) (m + 1) (fun x hx => hp x (List.mem_cons_of_mem _ hx)) ⟨jt_come_wf a hc.1 (by omega), jS_come b hc.1 h0 h1, fun x x0 x1 => by
        have z := jt_cf_come d hc.1 a.1.2 x x0 x1
        have z2 : 0 ≤ jt_come q.2 c (56 + x) ∧ jt_come q.2 c (56 + x) ≤ K + ((m + 1 : Nat) : Int) := by omega
        exact z2, by
        show 0 ≤ q.1 + jt_y q.2 c (t 0).toNat ∧ q.1 + jt_y q.2 c (t 0).toNat ≤ 60 * ((m + 1 : Nat) : Int)
        omega⟩
    rw [show m + (c :: r).length = (m + 1) + r.length by simp; omega]
    exact i
theorem jcl_inv {t : Int → Int} {K : Int} (hw : jt_wf t) (hcf : jt_cf t K) {p : List Int} (hp : ∀ c ∈ p, 0 ≤ c ∧ c < t 1) : jt_wf (jcl t p).2 ∧ jS t (jcl t p).2 (fun p => p) ∧ jt_cf (jcl t p).2 (K + p.length) ∧ (0 ≤ (jcl t p).1 ∧ (jcl t p).1 ≤ 60 * p.length) := by
  have h := jcl_inv0 (K := K) hw.1.2 hw.2.1.2 p (0, t) 0 hp ⟨hw, jS_id t, fun x x0 x1 => by have q := hcf x x0 x1; show 0 ≤ t (56 + x) ∧ t (56 + x) ≤ K + ((0 : Nat) : Int); omega, by show (0 : Int) ≤ 0 ∧ (0 : Int) ≤ 60 * ((0 : Nat) : Int); omega⟩
  rw [Nat.zero_add] at h
  exact h
def jco (t : Int → Int) (p : List Int) : Int := (jcl t p).1
theorem jdf_prune {t : Int → Int} {K : Int} {n : Nat} (hw : jt_wf t) (hcf : jt_cf t K) (hn : (n : Int) = t 1) : ∀ (k : Nat) (p : List Int) (b : jB), (∀ c ∈ p, 0 ≤ c ∧ c < t 1) → b.1 ≤ (jcl t p).1 → jdf (jco t) n k p b = b
  | 0, p, b, hp, h => by
    simp only [jdf, jup]
    rw [if_neg]
    show ¬ (jcl t p).1 < b.1
    omega
  | k + 1, p, b, hp, h => by
    have i := jcl_inv hw hcf hp
    have w0 := hw.1
    have w1 := hw.2.1
    have q : ∀ c : Nat, c ≤ n → jlp (fun c b => if (c : Int) ∈ p then b else jdf (jco t) n k (p ++ [(c : Int)]) b) c b = b := by
      intro c
      induction c with
      | zero => intro _; rfl
      | succ c ih =>
        intro hc
        simp only [jlp]
        rw [ih (by omega)]
        by_cases z : (c : Int) ∈ p
        · rw [if_pos z]
        · rw [if_neg z]
          have y := jt_y_r i.1 (c := c) (by omega) (by omega) (t 0).toNat (by omega)
          refine jdf_prune hw hcf hn k _ b (fun x hx => ?_) ?_
          · rw [List.mem_append, List.mem_singleton] at hx
            rcases hx with u | u
            · exact hp x u
            · rw [u]; omega
          · rw [jcl_app]
            show b.1 ≤ (jcl t p).1 + jt_y (jcl t p).2 c (t 0).toNat
            omega
    exact q n (Nat.le_refl n)
/-- the search's state: how little, by which row -/
def jto (μ : jm_M) (b : jB) (n : Int) : Prop := μ 49 5 = b.1 ∧ (b.1 < 361 → ∀ j, 0 ≤ j → j < n → μ 57 j = jF_ b.2 j)
def jfo (μ0 μ : jm_M) : Prop := ∀ z, (z ≠ 49 ∧ z ≠ 52 ∧ z ≠ 53 ∧ z ≠ 55 ∧ z ≠ 56 ∧ z ≠ 57) → μ z = μ0 z
theorem jw_cong {fa fb fa' fb' T : Int → Int} (h0 : T 0 ≤ 4) (h : jw fa fb (fun p => p) T) (ea : ∀ j, 0 ≤ j → j < 4 → fa' j = fa j) (eb : ∀ j, 0 ≤ j → j < 4 → fb' j = fb j) : jw fa' fb' (fun p => p) T := by
  refine ⟨fun p p0 p1 => ?_, fun m m0 m1 => by rw [eb m m0 m1]; exact h.2 m m0 m1⟩
  have q := h.1 p p0 p1
  refine ⟨by rw [ea p p0 (by omega)]; exact q.1, ?_⟩
  show fb' p = _
  rw [eb p p0 (by omega)]
  exact q.2
def jtoP (X : jm_X) (t : Int → Int) (n k : Nat) : Prop := ∀ (D : Nat) (Q : jv_P) (dd v ca : Int) (p : List Int) (b : jB) (μ : jm_M), dd = p.length → p.length + k = n → jH μ t → (∀ c ∈ p, 0 ≤ c ∧ c < t 1) → jtk v p → (∀ j, 0 ≤ j → j < dd → μ 56 j = jF_ p j) → ca = (jcl t p).1 → jw (μ 51) (μ 52) (fun p => p) (jcl t p).2 → jto μ b n → b.1 ≤ 361 → (∀ μ2, jfo μ μ2 → jto μ2 (jdf (jco t) n k p b) n → (∀ j, 0 ≤ j → j < dd → μ2 56 j = μ 56 j) → (∀ j, 0 ≤ j → j < 4 * dd → μ2 55 j = μ 55 j) → Q [] μ2) → cV X (D + k + 3) 14 [.inr (.inr 49), .inr (.inr 7), .inl dd, .inl v, .inl ca] μ Q
theorem jdf_le {cost : List Int → Int} {n k : Nat} {p : List Int} {b : jB} : (jdf cost n k p b).1 ≤ b.1 := by
  rw [jdf_bf]
  exact jbf_le _ _
set_option maxRecDepth 10000 in
set_option maxHeartbeats 1000000 in
theorem cl_tryO_l {X : jm_X} {D : Nat} {Q : jv_P} {t : Int → Int} {n k : Nat} {dd v ca K : Int} {p : List Int} {b0 : jB} {μ0 : jm_M} (IH : jtoP X t n k) (hH0 : jH μ0 t) (hcf : jt_cf t K) (hn : (n : Int) = t 1) (hd : dd = p.length) (hdn : p.length + (k + 1) = n) (hp : ∀ c ∈ p, 0 ≤ c ∧ c < t 1) (hv : jtk v p) (hca : ca = (jcl t p).1) (hJ : jw (μ0 51) (fun j => μ0 55 (4 * dd + j)) (fun p => p) (jcl t p).2) (hb0 : b0.1 ≤ 361) (kk : ∀ μ2, jfo μ0 μ2 → jto μ2 (jlp (fun c b => if (c : Int) ∈ p then b else jdf (jco t) n k (p ++ [(c : Int)]) b) n b0) n → (∀ j, 0 ≤ j → j < dd → μ2 56 j = jF_ p j) → (∀ j, 0 ≤ j → j < 4 * dd → μ2 55 j = μ0 55 j) → Q [] μ2) : ∀ (m : Nat) (w : Int) (o6 : Option jm_V) (μ : jm_M), 0 ≤ w → w ≤ t 1 → t 1 - w < m → jfo μ0 μ → jto μ (jlp (fun c b => if (c : Int) ∈ p then b else jdf (jco t) n k (p ++ [(c : Int)]) b) w.toNat b0) n → (∀ j, 0 ≤ j → j < dd → μ 56 j = jF_ p j) → (∀ j, 0 ≤ j → j < 4 * dd + 4 → μ 55 j = μ0 55 j) → (jlp (fun c b => if (c : Int) ∈ p then b else jdf (jco t) n k (p ++ [(c : Int)]) b) w.toNat b0).1 ≤ 361 → jV X (D + k + 3) jm_p_X2_tryOrders Q 30 [some (.inr (.inr 49)), some (.inr (.inr 7)), some (.inl dd), some (.inl v), some (.inl ca), some (.inl w), o6] [] μ := by
  have hi := jcl_inv hH0.1 hcf hp
  have w0 := hH0.1.1
  have w1 := hH0.1.2.1
  intro m
  induction m with
  | zero => intro w o6 μ y0 y1 yn hf ho ht hl hb; exfalso; omega
  | succ m ih =>
    intro w o6 μ y0 y1 yn hf ho ht hl hb
    have hHμ := jH_congr (fun z a b => hf z (by omega)) hH0
    have n3μ := jH_3 hHμ
    have hyr : w < t 1 → 0 ≤ jt_y (jcl t p).2 w ((jcl t p).2 0).toNat ∧ jt_y (jcl t p).2 w ((jcl t p).2 0).toNat ≤ 60 := fun q => jt_y_r hi.1 y0 (by omega) _ (by have := hi.1.1; omega)
    have hT0 : (jcl t p).2 0 = t 0 := hi.2.1.1
    refine jv_iload rfl rfl rfl ?_
    refine jv_aload_n rfl rfl rfl (by decide) ?_
    refine jv_geti rfl rfl rfl ⟨by decide, rfl⟩ (by decide) ?_
    refine jv_icmp_ge rfl rfl rfl (fun c33 => ?_) (fun c33 => ?_)
    · refine jv_return rfl ?_
      have hw : w = t 1 := by omega
      rw [hw, show (t 1).toNat = n by omega] at ho
      exact kk _ hf ho ht (fun j j0 j1 => hl j j0 (by omega))
    · refine jv_iload_n rfl rfl rfl ?_
      refine jv_iload rfl rfl rfl ?_
      refine jv_ishr rfl rfl ?_
      refine jv_iconst rfl rfl ?_
      refine jv_iand rfl rfl ?_
      refine jv_if_ne rfl rfl rfl (fun c39 => ?_) (fun c39 => ?_)
      · refine jv_iinc (fun x => [some (.inr (.inr 49)), some (.inr (.inr 7)), some (.inl dd), some (.inl v), some (.inl ca), some (.inl x), o6]) rfl rfl rfl ⟨by omega, by omega⟩ (fun _ => rfl) (fun x5_79 ex5_79 => ?_)
        refine jv_goto rfl rfl ?_
        have hwp : w ∈ p := Classical.byContradiction (fun q => c39 ((hv.2 w y0 (by omega)).2 q))
        have es : jlp (fun c b => if (c : Int) ∈ p then b else jdf (jco t) n k (p ++ [(c : Int)]) b) (w + 1).toNat b0 = jlp (fun c b => if (c : Int) ∈ p then b else jdf (jco t) n k (p ++ [(c : Int)]) b) w.toNat b0 := by
          rw [show (w + 1).toNat = w.toNat + 1 by omega]
          simp only [jlp]
          rw [show ((w.toNat : Nat) : Int) = w by omega, if_pos hwp]
        refine ih x5_79 _ μ (by omega) (by omega) (by omega) hf (by rw [ex5_79, es]; exact ho) ht hl (by rw [ex5_79, es]; exact hb)
      · refine jv_aload_n rfl rfl rfl (by decide) ?_
        refine jv_getr (w := 55) rfl rfl rfl ⟨by decide, rfl⟩ rfl rfl ?_
        refine jv_iload_n rfl rfl rfl ?_
        refine jv_iconst rfl rfl ?_
        refine jv_imul rfl rfl ⟨by omega, by omega⟩ ?_
        refine jv_aload_n rfl rfl rfl (by decide) ?_
        refine jv_getr (w := 50) rfl rfl rfl ⟨by decide, rfl⟩ rfl rfl ?_
        refine jv_getr (w := 52) rfl rfl rfl ⟨by decide, rfl⟩ rfl rfl ?_
        refine jv_iconst rfl rfl ?_
        refine jv_iconst rfl rfl ?_
        refine jv_acopy rfl rfl rfl rfl ⟨by decide, by decide⟩ (Nat.le_of_ble_eq_true rfl) ⟨⟨by omega, by omega, by omega⟩, by omega, by omega⟩ (fun μ50 eμ50 => ?_)
        have gμ50 : ∀ z, z ≠ 52 → μ50 z = μ z := fun z q => by rw [eμ50, jm_off1 q]
        have hj50 : jw (μ50 51) (μ50 52) (fun p => p) (jcl t p).2 := jw_cong (by omega) hJ (fun j j0 j1 => by rw [gμ50 51 (by decide), hf 51 (by decide)]) (fun j j0 j1 => by
          rw [eμ50, jm_uc_self]
          unfold jm_cpy
          rw [if_pos (by omega), show dd * 4 + (j - 0) = 4 * dd + j by omega]
          exact hl _ (by omega) (by omega))
        refine jv_aload_n rfl rfl rfl (by decide) ?_
        refine jv_getr (w := 56) rfl rfl rfl ⟨by decide, rfl⟩ rfl rfl ?_
        refine jv_iload_n rfl rfl rfl ?_
        refine jv_iload rfl rfl rfl ?_
        refine jv_iastore rfl rfl rfl (by decide) ⟨by omega, by omega⟩ (fun μ55 eμ55 => ?_)
        have gμ55 : ∀ z, z ≠ 52 → z ≠ 56 → μ55 z = μ z := fun z q r => by rw [eμ55, jm_off1 r, gμ50 z q]
        have hHμ55 := jH_congr (fun z a b => gμ55 z (by omega) (by omega)) hHμ
        have n3μ55 := jH_3 hHμ55
        have hj55 : jw (μ55 51) (μ55 52) (fun p => p) (jcl t p).2 := by rw [eμ55, jm_off1 (by decide), jm_off1 (by decide)]; exact hj50
        have h56 : ∀ j, μ55 56 j = if j = dd then w else μ 56 j := fun j => by rw [eμ55, jm_uc_self, gμ50 56 (by decide)]; rfl
        refine jv_aload_n rfl rfl rfl (by decide) ?_
        refine jv_getr (w := 50) rfl rfl rfl ⟨by decide, rfl⟩ rfl rfl ?_
        refine jv_aload_n rfl rfl rfl (by decide) ?_
        refine jv_aload_n rfl rfl rfl (by decide) ?_
        refine jv_getr (w := 9) rfl rfl rfl ⟨by decide, rfl⟩ rfl rfl ?_
        refine jv_iload rfl rfl rfl ?_
        refine jv_aaloadv (v := 18 + w) rfl rfl rfl ⟨by decide, by decide, by decide⟩ ⟨by omega, by omega⟩ (jH_com hHμ55 (by omega) (by omega)) ?_
        refine jv_callV2 rfl rfl rfl rfl ⟨by decide, rfl⟩ (Nat.le_of_ble_eq_true rfl) (cl_goC50 hHμ55 hi.1 hi.2.1 (jl_id _) (by omega) hj55 (fun μ63 fμ63 jμ63 lμ63 => ?_))
        show jV _ _ jm_p_X2_tryOrders _ 64 [some (.inr (.inr 49)), some (.inr (.inr 7)), some (.inl dd), some (.inl v), some (.inl ca), some (.inl w), o6] [.inl (jt_y (jcl t p).2 w ((jcl t p).2 0).toNat)] μ63
        have hHμ63 := jH_congr (fun z a b => fμ63 z (by omega) (by omega)) hHμ55
        have n3μ63 := jH_3 hHμ63
        have n2μ63 := jH_2 hHμ63
        refine jv_istore (fun x => [some (.inr (.inr 49)), some (.inr (.inr 7)), some (.inl dd), some (.inl v), some (.inl ca), some (.inl w), some (.inl x)]) rfl rfl (fun _ => rfl) (fun x6_64 ex6_64 => ?_)
        refine jv_aload_n rfl rfl rfl (by decide) ?_
        refine jv_aload_n rfl rfl rfl (by decide) ?_
        refine jv_iload_n rfl rfl rfl ?_
        refine jv_iconst rfl rfl ?_
        refine jv_iadd rfl rfl ⟨by omega, by omega⟩ ?_
        refine jv_iload_n rfl rfl rfl ?_
        refine jv_iconst rfl rfl ?_
        refine jv_iload rfl rfl rfl ?_
        refine jv_ishl rfl rfl ?_
        refine jv_ior rfl rfl ?_
        refine jv_iload rfl rfl rfl ?_
        refine jv_iload rfl rfl rfl ?_
        refine jv_iadd rfl rfl ⟨by omega, by omega⟩ ?_
        have hwn : w ∉ p := (hv.2 w y0 (by omega)).1 (by omega)
        have hyw := hyr (by omega)
        have hap : jcl t (p ++ [w]) = ((jcl t p).1 + jt_y (jcl t p).2 w (t 0).toNat, jt_come (jcl t p).2 w) := jcl_app
        refine jv_callV4 rfl rfl rfl rfl ⟨by decide, rfl⟩ (Nat.le_of_ble_eq_true rfl) (IH D _ (dd + 1) _ _ (p ++ [w]) (jlp (fun c b => if (c : Int) ∈ p then b else jdf (jco t) n k (p ++ [(c : Int)]) b) w.toNat b0) μ63 (by simp; omega) (by simp; omega) hHμ63 (fun x hx => ?_) (jtk_app hv y0 (by omega)) (fun j j0 j1 => ?_) ?_ ?_ ?_ hb (fun μ78 fμ78 oμ78 pμ78 qμ78 => ?_))
        rotate_left 5
        · show jV _ _ jm_p_X2_tryOrders _ 79 [some (.inr (.inr 49)), some (.inr (.inr 7)), some (.inl dd), some (.inl v), some (.inl ca), some (.inl w), some (.inl x6_64)] [] μ78
          refine jv_iinc (fun x => [some (.inr (.inr 49)), some (.inr (.inr 7)), some (.inl dd), some (.inl v), some (.inl ca), some (.inl x), some (.inl x6_64)]) rfl rfl rfl ⟨by omega, by omega⟩ (fun _ => rfl) (fun x5_79_1 ex5_79_1 => ?_)
          refine jv_goto rfl rfl ?_
          have es : jlp (fun c b => if (c : Int) ∈ p then b else jdf (jco t) n k (p ++ [(c : Int)]) b) (w + 1).toNat b0 = jdf (jco t) n k (p ++ [w]) (jlp (fun c b => if (c : Int) ∈ p then b else jdf (jco t) n k (p ++ [(c : Int)]) b) w.toNat b0) := by
            rw [show (w + 1).toNat = w.toNat + 1 by omega]
            simp only [jlp]
            rw [show ((w.toNat : Nat) : Int) = w by omega, if_neg hwn]
          refine ih x5_79_1 _ μ78 (by omega) (by omega) (by omega) (fun z q => by rw [fμ78 z q, fμ63 z (by omega) (by omega), gμ55 z (by omega) (by omega), hf z q]) (by rw [ex5_79_1, es]; exact oμ78) (fun j j0 j1 => ?_) (fun j j0 j1 => ?_) (by rw [ex5_79_1, es]; exact Int.le_trans jdf_le hb)
          · rw [pμ78 j j0 (by omega), fμ63 56 (by decide) (by decide), h56, if_neg (by omega)]
            exact ht j j0 j1
          · rw [qμ78 j j0 (by omega), fμ63 55 (by decide) (by decide), gμ55 55 (by decide) (by decide)]
            exact hl j j0 j1
        · rw [List.mem_append, List.mem_singleton] at hx
          rcases hx with u | u
          · exact hp x u
          · rw [u]; omega
        · rw [fμ63 56 (by decide) (by decide), h56]
          by_cases hj : j = dd
          · rw [if_pos hj, hj, hd, jF_eq]
          · rw [if_neg hj, jF_lt j0 (by omega)]
            exact ht j j0 (by omega)
        · rw [hap, ex6_64, hca, hT0]
        · rw [hap]
          exact jμ63
        · refine ⟨?_, fun z j j0 j1 => ?_⟩
          · rw [fμ63 49 (by decide) (by decide), gμ55 49 (by decide) (by decide)]
            exact ho.1
          · rw [fμ63 57 (by decide) (by decide), gμ55 57 (by decide) (by decide)]
            exact ho.2 z j j0 j1
set_option maxRecDepth 10000 in
set_option maxHeartbeats 1000000 in
theorem cl_tryO {X : jm_X} {t : Int → Int} {n : Nat} {K : Int} (hcf : jt_cf t K) (hn : (n : Int) = t 1) : ∀ k : Nat, jtoP X t n k
  | 0 => by
    intro D Q dd v ca p b μ hd hdn hH hp hv ht hca hj ho hb kk
    have n3μ := jH_3 hH
    have w1 := hH.1.2.1
    have hlp : ((p.length : Nat) : Int) = dd := by omega
    refine jv_enter (d := D + 2) jm_p_X2_tryOrders [some (.inr (.inr 49)), some (.inr (.inr 7)), some (.inl dd), some (.inl v), some (.inl ca), none, none] rfl rfl rfl (Nat.le_of_ble_eq_true rfl) rfl rfl ?_
    refine jv_iload rfl rfl rfl ?_
    refine jv_aload_n rfl rfl rfl (by decide) ?_
    refine jv_geti rfl rfl rfl ⟨by decide, rfl⟩ (by decide) ?_
    refine jv_icmp_lt rfl rfl rfl (fun c3 => ?_) (fun c3 => ?_)
    · refine jv_iload_n rfl rfl rfl ?_
      refine jv_aload_n rfl rfl rfl (by decide) ?_
      refine jv_geti rfl rfl rfl ⟨by decide, rfl⟩ (by decide) ?_
      refine jv_icmp_geT rfl rfl (by omega) ?_
      refine jv_aload_n rfl rfl rfl (by decide) ?_
      refine jv_iload_n rfl rfl rfl ?_
      refine jv_iload rfl rfl rfl ?_
      refine jv_callV2 rfl rfl rfl rfl ⟨by decide, rfl⟩ (Nat.le_of_ble_eq_true rfl) (cl_keepT (by omega) (fun μ15 fμ15 aμ15 bμ15 => ?_))
      show jV _ _ jm_p_X2_tryOrders _ 16 [some (.inr (.inr 49)), some (.inr (.inr 7)), some (.inl dd), some (.inl v), some (.inl ca), none, none] [] μ15
      refine jv_return rfl ?_
      refine kk _ (fun z q => fμ15 z (by omega) (by omega)) ?_ (fun j j0 j1 => by rw [fμ15 56 (by decide) (by decide)]) (fun j j0 j1 => by rw [fμ15 55 (by decide) (by decide)])
      have hlt : jco t p < b.1 := by
        show (jcl t p).1 < b.1
        have := ho.1
        omega
      simp only [jdf, jup]
      rw [if_pos hlt]
      refine ⟨?_, fun z j j0 j1 => ?_⟩
      · rw [aμ15]
        exact hca
      · rw [bμ15 j j0 (by omega)]
        exact ht j j0 (by omega)
    · refine jv_return rfl ?_
      refine kk μ (fun _ _ => rfl) ?_ (fun _ _ _ => rfl) (fun _ _ _ => rfl)
      have hpr : b.1 ≤ (jcl t p).1 := by have := ho.1; omega
      rw [jdf_prune hH.1 hcf hn _ p b hp hpr]
      exact ho
  | k + 1 => by
    intro D Q dd v ca p b μ hd hdn hH hp hv ht hca hj ho hb kk
    have n3μ := jH_3 hH
    have w1 := hH.1.2.1
    have hlp : ((p.length : Nat) : Int) = dd := by omega
    refine jv_enter (d := D + k + 3) jm_p_X2_tryOrders [some (.inr (.inr 49)), some (.inr (.inr 7)), some (.inl dd), some (.inl v), some (.inl ca), none, none] rfl rfl rfl (Nat.le_of_ble_eq_true rfl) rfl rfl ?_
    refine jv_iload rfl rfl rfl ?_
    refine jv_aload_n rfl rfl rfl (by decide) ?_
    refine jv_geti rfl rfl rfl ⟨by decide, rfl⟩ (by decide) ?_
    refine jv_icmp_lt rfl rfl rfl (fun c3 => ?_) (fun c3 => ?_)
    · refine jv_iload_n rfl rfl rfl ?_
      refine jv_aload_n rfl rfl rfl (by decide) ?_
      refine jv_geti rfl rfl rfl ⟨by decide, rfl⟩ (by decide) ?_
      refine jv_icmp_geF rfl rfl (by omega) ?_
      refine jv_iload_n rfl rfl rfl ?_
      refine jv_bipush rfl rfl ?_
      refine jv_icmp_ltT rfl rfl (by omega) ?_
      refine jv_aload_n rfl rfl rfl (by decide) ?_
      refine jv_getr (w := 50) rfl rfl rfl ⟨by decide, rfl⟩ rfl rfl ?_
      refine jv_getr (w := 52) rfl rfl rfl ⟨by decide, rfl⟩ rfl rfl ?_
      refine jv_iconst rfl rfl ?_
      refine jv_aload_n rfl rfl rfl (by decide) ?_
      refine jv_getr (w := 55) rfl rfl rfl ⟨by decide, rfl⟩ rfl rfl ?_
      refine jv_iload_n rfl rfl rfl ?_
      refine jv_iconst rfl rfl ?_
      refine jv_imul rfl rfl ⟨by omega, by omega⟩ ?_
      refine jv_iconst rfl rfl ?_
      refine jv_acopy rfl rfl rfl rfl ⟨by decide, by decide⟩ (Nat.le_of_ble_eq_true rfl) ⟨⟨by omega, by omega, by omega⟩, by omega, by omega⟩ (fun μ27 eμ27 => ?_)
      refine jv_iconst rfl rfl ?_
      refine jv_istoreK (L2 := [some (.inr (.inr 49)), some (.inr (.inr 7)), some (.inl dd), some (.inl v), some (.inl ca), some (.inl 0), none]) rfl rfl rfl ?_
      have g27 : ∀ z, z ≠ 55 → μ27 z = μ z := fun z q => by rw [eμ27, jm_off1 q]
      have h55 : ∀ j, μ27 55 j = if dd * 4 ≤ j ∧ j < dd * 4 + 4 then μ 52 (0 + (j - dd * 4)) else μ 55 j := fun j => by rw [eμ27, jm_uc_self]; rfl
      have hT0 : (jcl t p).2 0 ≤ 4 := (jcl_inv hH.1 hcf hp).1.1.2
      refine cl_tryO_l (μ0 := μ27) (cl_tryO hcf hn k) (jH_congr (fun z a b => g27 z (by omega)) hH) hcf hn hd hdn hp hv hca (jw_cong hT0 hj (fun j j0 j1 => by rw [g27 51 (by decide)]) (fun j j0 j1 => ?_)) hb (fun μ2 f o p2 q2 => ?_) 9 0 _ μ27 (by omega) w1.1 (by omega) (fun _ _ => rfl) ?_ (fun j j0 j1 => by rw [g27 56 (by decide)]; exact ht j j0 j1) (fun _ _ _ => rfl) hb
      · show μ27 55 (4 * dd + j) = μ 52 j
        rw [h55, if_pos (by omega), show 0 + (4 * dd + j - dd * 4) = j by omega]
      · exact kk μ2 (fun z q => by rw [f z q, g27 z (by omega)]) o (fun j j0 j1 => by rw [p2 j j0 j1, ht j j0 j1]) (fun j j0 j1 => by rw [q2 j j0 j1, h55, if_neg (by omega)])
      · exact ⟨by rw [g27 49 (by decide)]; exact ho.1, fun z j j0 j1 => by rw [g27 57 (by decide)]; exact ho.2 z j j0 j1⟩
    · refine jv_return rfl ?_
      refine kk μ (fun _ _ => rfl) ?_ (fun _ _ _ => rfl) (fun _ _ _ => rfl)
      have hpr : b.1 ≤ (jcl t p).1 := by have := ho.1; omega
      rw [jdf_prune hH.1 hcf hn _ p b hp hpr]
      exact ho
