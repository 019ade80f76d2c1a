/-! how the mats ought to lie -/
def jly (t la : Int → Int) (nc nl : Int) : Int → Int := fun j => if 4 ≤ j ∧ j < 4 + nc then t (4 + la (j - 4)) else if 8 ≤ j ∧ j < 8 + nl then t (8 + 6 * la ((j - 8) / 6) + (j - 8) % 6) else t j
def jlay (t la : Int → Int) : Int → Int := jly t la (t 0) (6 * t 0)
theorem jlay_o {t la : Int → Int} {j : Int} (h0 : 0 ≤ t 0 ∧ t 0 ≤ 4) (h : j < 4 ∨ 32 ≤ j) : jlay t la j = t j := by
  unfold jlay jly
  rw [if_neg (by omega), if_neg (by omega)]
theorem jlay_c {t la : Int → Int} {p : Int} (p0 : 0 ≤ p) (p1 : p < t 0) : jlay t la (4 + p) = t (4 + la p) := by
  unfold jlay jly
  rw [if_pos (by omega), show 4 + p - 4 = p by omega]
theorem jlay_l {t la : Int → Int} {p k : Int} (h0 : t 0 ≤ 4) (p0 : 0 ≤ p) (p1 : p < t 0) (k0 : 0 ≤ k) (k1 : k < 6) : jlay t la (8 + 6 * p + k) = t (8 + 6 * la p + k) := by
  unfold jlay jly
  rw [if_neg (by omega), if_pos (by omega), show (8 + 6 * p + k - 8) / 6 = p by omega, show (8 + 6 * p + k - 8) % 6 = k by omega]
theorem jlay_lies {t la : Int → Int} {p : Int} (h0 : t 0 ≤ 4) (p0 : 0 ≤ p) (p1 : p < t 0) : jt_lies (jlay t la) p = jt_lies t (la p) := by
  have q := fun k k0 k1 => jlay_l (t := t) (la := la) (p := p) (k := k) h0 p0 p1 k0 k1
  have q0 := q 0 (by decide) (by decide)
  rw [Int.add_zero, Int.add_zero] at q0
  unfold jt_lies
  rw [q0, q 1 (by decide) (by decide), q 2 (by decide) (by decide), q 3 (by decide) (by decide), q 4 (by decide) (by decide), q 5 (by decide) (by decide)]
theorem jlay_b {t la : Int → Int} {j : Int} (h : 8 + 6 * t 0 ≤ j ∨ (4 + t 0 ≤ j ∧ j < 8)) : jlay t la j = t j ∨ t 0 < 0 ∨ 4 < t 0 := by
  by_cases a : 0 ≤ t 0 ∧ t 0 ≤ 4
  · left
    unfold jlay jly
    rw [if_neg (by omega), if_neg (by omega)]
  · omega
theorem jlay_wf {t la : Int → Int} (hw : jt_wf t) (hla : ∀ p, 0 ≤ p → p < t 0 → 0 ≤ la p ∧ la p < t 0) : jt_wf (jlay t la) := by
  obtain ⟨w0, w1, w2, w3, w4, w6, w7, w8⟩ := hw
  have o := fun j h => jlay_o (t := t) (la := la) (j := j) w0 h
  refine ⟨by rw [o 0 (by omega)]; exact w0, by rw [o 1 (by omega)]; exact w1, by rw [o 2 (by omega)]; exact w2, by rw [o 3 (by omega)]; exact w3, fun m m0 m1 => ?_, fun j j0 j1 => ?_, fun m m0 m1 => ?_, fun x x0 x1 => ?_⟩
  · by_cases q : m < t 0
    · have r := hla m m0 q
      rw [jlay_c m0 q]
      exact w4 _ r.1 (by omega)
    · rcases jlay_b (t := t) (la := la) (j := 4 + m) (by omega) with z | z
      · rw [z]; exact w4 m m0 m1
      · omega
  · by_cases q : (j - 8) / 6 < t 0
    · have r := hla ((j - 8) / 6) (by omega) q
      have e := jlay_l (t := t) (la := la) (p := (j - 8) / 6) (k := (j - 8) % 6) w0.2 (by omega) q (by omega) (by omega)
      rw [show 8 + 6 * ((j - 8) / 6) + (j - 8) % 6 = j by omega] at e
      rw [e]
      exact w6 _ (by omega) (by omega)
    · rcases jlay_b (t := t) (la := la) (j := j) (by omega) with z | z
      · rw [z]; exact w6 j j0 j1
      · omega
  · rw [o 2 (by omega)]
    by_cases q : m < t 0
    · have r := hla m m0 q
      rw [jlay_lies w0.2 m0 q]
      exact w7 _ r.1 (by omega)
    · have z := w7 m m0 m1
      have b : ∀ j, 8 + 6 * t 0 ≤ j → jlay t la j = t j := fun j h => by
        rcases jlay_b (t := t) (la := la) (j := j) (by omega) with y | y
        · exact y
        · omega
      unfold jt_lies at z ⊢
      rw [b _ (by omega), b _ (by omega), b _ (by omega), b _ (by omega), b _ (by omega), b _ (by omega)]
      exact z
  · rw [o _ (by omega), o _ (by omega), o _ (by omega), o _ (by omega)]
    exact w8 x x0 x1
theorem jlay_S {t la : Int → Int} (w0 : 0 ≤ t 0 ∧ t 0 ≤ 4) (w1 : t 1 ≤ 6) : jS t (jlay t la) la := by
  have o := fun j h => jlay_o (t := t) (la := la) (j := j) w0 h
  refine ⟨o 0 (by omega), o 1 (by omega), o 2 (by omega), fun p p0 p1 => jlay_c p0 p1, fun c c0 c1 => ?_⟩
  rw [o _ (by omega), o _ (by omega), o _ (by omega), o _ (by omega)]
  exact ⟨rfl, rfl, rfl, rfl⟩
theorem jlay_cf {t la : Int → Int} {K : Int} (w0 : 0 ≤ t 0 ∧ t 0 ≤ 4) (h : jt_cf t K) : jt_cf (jlay t la) K := fun x x0 x1 => by
  rw [jlay_o w0 (by omega)]
  exact h x x0 x1
def jlc (t : Int → Int) (p : List Int) : Int := (jc (fun _ => true) (jlay t (jF_ p)) (t 1).toNat).1
theorem jb_allv : ∀ n : Fin 7, ∀ c : Fin 6, c.val < n.val → jm_and (jm_shr (jm_shl 1 (n.val : Int) - 1) (c.val : Int)) 1 = 1 := by decide +kernel
theorem jb_all {n c : Int} (n6 : n ≤ 6) (c0 : 0 ≤ c) (c1 : c < n) : jm_and (jm_shr (jm_shl 1 n - 1) c) 1 = 1 := by
  obtain ⟨x, rfl⟩ := Int.eq_ofNat_of_zero_le c0
  obtain ⟨y, rfl⟩ := Int.eq_ofNat_of_zero_le (show 0 ≤ n by omega)
  exact jb_allv ⟨y, by omega⟩ ⟨x, by omega⟩ (by dsimp only; omega)
theorem jb_zero {c : Int} (c0 : 0 ≤ c) (c1 : c < 6) : ¬ jm_and (jm_shr 0 c) 1 = 1 := by
  have q : ∀ k : Fin 6, ¬ jm_and (jm_shr 0 (k.val : Int)) 1 = 1 := by decide +kernel
  obtain ⟨x, rfl⟩ := Int.eq_ofNat_of_zero_le c0
  exact q ⟨x, by omega⟩
theorem jpv_l {n : Int} {p : List Int} (h : jpv n p) (hl : (p.length : Int) = n) : jl (jF_ p) n := ⟨fun i i0 i1 => h.1 _ (jF_mem i0 (by omega)), fun i j i0 i1 j0 j1 e => h.2 i j i0 (by omega) j0 (by omega) e⟩
def jfl (μ0 μ : jm_M) : Prop := ∀ z, (z ≠ 49 ∧ z ≠ 51 ∧ z ≠ 52 ∧ z ≠ 53 ∧ z ≠ 56 ∧ z ≠ 57) → μ z = μ0 z
def jtlP (X : jm_X) (t : Int → Int) (n k : Nat) : Prop := ∀ (D : Nat) (Q : jv_P) (dd v : Int) (p : List Int) (b : jB) (μ : jm_M), dd = p.length → p.length + k = n → jH μ t → jpv (t 0) p → jtk v p → (∀ j, 0 ≤ j → j < dd → μ 56 j = jF_ p j) → jto μ b n → b.1 ≤ 361 → (∀ μ2, jfl μ μ2 → jto μ2 (jdf (jlc t) n k p b) n → (∀ j, 0 ≤ j → j < dd → μ2 56 j = μ 56 j) → Q [] μ2) → cV X (D + k + 5) 16 [.inr (.inr 49), .inr (.inr 7), .inl dd, .inl v] μ Q
theorem jlc_r {t : Int → Int} (hw : jt_wf t) {p : List Int} (hp : ∀ j, 0 ≤ j → j < t 0 → 0 ≤ jF_ p j ∧ jF_ p j < t 0) : 0 ≤ jlc t p ∧ jlc t p ≤ 360 := by
  have i := jc_inv (b := fun _ => true) (jlay_wf hw hp) (jlay_S hw.1 hw.2.1.2) hw.1.2 hw.2.1.2 (t 1).toNat (by have := hw.2.1; omega)
  have w1 := hw.2.1
  unfold jlc
  omega
set_option maxRecDepth 10000 in
set_option maxHeartbeats 1000000 in
theorem cl_tryL_l {X : jm_X} {D : Nat} {Q : jv_P} {t : Int → Int} {n k : Nat} {dd v : Int} {p : List Int} {b0 : jB} {μ0 : jm_M} (IH : jtlP X t n k) (hH0 : jH μ0 t) (hn : (n : Int) = t 0) (hd : dd = p.length) (hdn : p.length + (k + 1) = n) (hp : jpv (t 0) p) (hv : jtk v p) (kk : ∀ μ2, jfl μ0 μ2 → jto μ2 (jlp (fun c b => if (c : Int) ∈ p then b else jdf (jlc t) n k (p ++ [(c : Int)]) b) n b0) n → (∀ j, 0 ≤ j → j < dd → μ2 56 j = jF_ p j) → Q [] μ2) : ∀ (m : Nat) (w : Int) (μ : jm_M), 0 ≤ w → w ≤ t 0 → t 0 - w < m → jfl μ0 μ → jto μ (jlp (fun c b => if (c : Int) ∈ p then b else jdf (jlc t) n k (p ++ [(c : Int)]) b) w.toNat b0) n → (∀ j, 0 ≤ j → j < dd → μ 56 j = jF_ p j) → (jlp (fun c b => if (c : Int) ∈ p then b else jdf (jlc t) n k (p ++ [(c : Int)]) b) w.toNat b0).1 ≤ 361 → jV X (D + k + 5) jm_p_X2_tryLayings Q 38 [some (.inr (.inr 49)), some (.inr (.inr 7)), some (.inl dd), some (.inl v), some (.inl w)] [] μ := by
  have w0 := hH0.1.1
  intro m
  induction m with
  | zero => intro w μ y0 y1 yn hf ho ht hb; exfalso; omega
  | succ m ih =>
    intro w μ y0 y1 yn hf ho ht hb
    have hHμ := jH_congr (fun z a b => hf z (by omega)) hH0
    have n2μ := jH_2 hHμ
    refine jv_iload rfl rfl rfl ?_
    refine jv_aload_n rfl rfl rfl (by decide) ?_
    refine jv_geti rfl rfl rfl ⟨by decide, rfl⟩ (by decide) ?_
    refine jv_icmp_ge rfl rfl rfl (fun c41 => ?_) (fun c41 => ?_)
    · refine jv_return rfl ?_
      have hw : w = t 0 := by omega
      rw [hw, show (t 0).toNat = n by omega] at ho
      exact kk _ hf ho ht
    · refine jv_iload_n rfl rfl rfl ?_
      refine jv_iload rfl rfl rfl ?_
      refine jv_ishr rfl rfl ?_
      refine jv_iconst rfl rfl ?_
      refine jv_iand rfl rfl ?_
      refine jv_if_ne rfl rfl rfl (fun c47 => ?_) (fun c47 => ?_)
      · refine jv_iinc (fun x => [some (.inr (.inr 49)), some (.inr (.inr 7)), some (.inl dd), some (.inl v), some (.inl x)]) rfl rfl rfl ⟨by omega, by omega⟩ (fun _ => rfl) (fun x4_64 ex4_64 => ?_)
        refine jv_goto rfl rfl ?_
        have hwp : w ∈ p := Classical.byContradiction (fun q => c47 ((hv.2 w y0 (by omega)).2 q))
        have es : jlp (fun c b => if (c : Int) ∈ p then b else jdf (jlc t) n k (p ++ [(c : Int)]) b) (w + 1).toNat b0 = jlp (fun c b => if (c : Int) ∈ p then b else jdf (jlc t) n k (p ++ [(c : Int)]) b) w.toNat b0 := by
          rw [show (w + 1).toNat = w.toNat + 1 by omega]
          simp only [jlp]
          rw [show ((w.toNat : Nat) : Int) = w by omega, if_pos hwp]
        refine ih x4_64 μ (by omega) (by omega) (by omega) hf (by rw [ex4_64, es]; exact ho) ht (by rw [ex4_64, es]; exact hb)
      · refine jv_aload_n rfl rfl rfl (by decide) ?_
        refine jv_getr (w := 56) rfl rfl rfl ⟨by decide, rfl⟩ rfl rfl ?_
        refine jv_iload_n rfl rfl rfl ?_
        refine jv_iload rfl rfl rfl ?_
        refine jv_iastore rfl rfl rfl (by decide) ⟨by omega, by omega⟩ (fun μ52 eμ52 => ?_)
        have gμ52 : ∀ z, z ≠ 56 → μ52 z = μ z := fun z q => by rw [eμ52, jm_off1 q]
        have hHμ52 := jH_congr (fun z a b => gμ52 z (by omega)) hHμ
        have h56 : ∀ j, μ52 56 j = if j = dd then w else μ 56 j := fun j => by rw [eμ52, jm_uc_self]; rfl
        refine jv_aload_n rfl rfl rfl (by decide) ?_
        refine jv_aload_n rfl rfl rfl (by decide) ?_
        refine jv_iload_n rfl rfl rfl ?_
        refine jv_iconst rfl rfl ?_
        refine jv_iadd rfl rfl ⟨by omega, by omega⟩ ?_
        refine jv_iload_n rfl rfl rfl ?_
        refine jv_iconst rfl rfl ?_
        refine jv_iload rfl rfl rfl ?_
        refine jv_ishl rfl rfl ?_
        refine jv_ior rfl rfl ?_
        have hwn : w ∉ p := (hv.2 w y0 (by omega)).1 (by omega)
        refine jv_callV3 rfl rfl rfl rfl ⟨by decide, rfl⟩ (Nat.le_of_ble_eq_true rfl) (IH D _ (dd + 1) _ (p ++ [w]) (jlp (fun c b => if (c : Int) ∈ p then b else jdf (jlc t) n k (p ++ [(c : Int)]) b) w.toNat b0) μ52 (by simp; omega) (by simp; omega) hHμ52 (jpv_app hp ⟨y0, by omega⟩ hwn) (jtk_app hv y0 (by omega)) (fun j j0 j1 => by
          rw [h56]
          by_cases hj : j = dd
          · rw [if_pos hj, hj, hd, jF_eq]
          · rw [if_neg hj, jF_lt j0 (by omega)]
            exact ht j j0 (by omega)) ⟨by rw [gμ52 49 (by decide)]; exact ho.1, fun z j j0 j1 => by rw [gμ52 57 (by decide)]; exact ho.2 z j j0 j1⟩ hb (fun μ63 fμ63 oμ63 pμ63 => ?_))
        show jV _ _ jm_p_X2_tryLayings _ 64 [some (.inr (.inr 49)), some (.inr (.inr 7)), some (.inl dd), some (.inl v), some (.inl w)] [] μ63
        refine jv_iinc (fun x => [some (.inr (.inr 49)), some (.inr (.inr 7)), some (.inl dd), some (.inl v), some (.inl x)]) rfl rfl rfl ⟨by omega, by omega⟩ (fun _ => rfl) (fun x4_64_1 ex4_64_1 => ?_)
        refine jv_goto rfl rfl ?_
        have es : jlp (fun c b => if (c : Int) ∈ p then b else jdf (jlc t) n k (p ++ [(c : Int)]) b) (w + 1).toNat b0 = jdf (jlc t) n k (p ++ [w]) (jlp (fun c b => if (c : Int) ∈ p then b else jdf (jlc t) n k (p ++ [(c : Int)]) b) w.toNat b0) := by
          rw [show (w + 1).toNat = w.toNat + 1 by omega]
          simp only [jlp]
          rw [show ((w.toNat : Nat) : Int) = w by omega, if_neg hwn]
        refine ih x4_64_1 μ63 (by omega) (by omega) (by omega) (fun z q => by rw [fμ63 z q, gμ52 z (by omega), hf z q]) (by rw [ex4_64_1, es]; exact oμ63) (fun j j0 j1 => ?_) (by rw [ex4_64_1, es]; exact Int.le_trans jdf_le hb)
        rw [pμ63 j j0 (by omega), h56, if_neg (by omega)]
        exact ht j j0 j1
set_option maxRecDepth 10000 in
set_option maxHeartbeats 1000000 in
theorem cl_tryL {X : jm_X} {t : Int → Int} {n : Nat} (hn : (n : Int) = t 0) : ∀ k : Nat, jtlP X t n k
  | 0 => by
    intro D Q dd v p b μ hd hdn hH hp hv ht ho hb kk
    have hHμ := hH
    have n2μ := jH_2 hH
    have w0 := hH.1.1
    have w1 := hH.1.2.1
    have hlp : ((p.length : Nat) : Int) = dd := by omega
    refine jv_enter (d := D + 4) jm_p_X2_tryLayings [some (.inr (.inr 49)), some (.inr (.inr 7)), some (.inl dd), some (.inl v), none] rfl rfl rfl (Nat.le_of_ble_eq_true rfl) rfl rfl ?_
    refine jv_iload_n rfl rfl rfl ?_
    refine jv_aload_n rfl rfl rfl (by decide) ?_
    refine jv_geti rfl rfl rfl ⟨by decide, rfl⟩ (by decide) ?_
    refine jv_icmp_geT rfl rfl (by omega) ?_
    refine jv_aload_n rfl rfl rfl (by decide) ?_
    refine jv_getr (w := 50) rfl rfl rfl ⟨by decide, rfl⟩ rfl rfl ?_
    refine jv_aload_n rfl rfl rfl (by decide) ?_
    refine jv_callV1 rfl rfl rfl rfl ⟨by decide, rfl⟩ (Nat.le_of_ble_eq_true rfl) (cl_beginT50 hHμ (fun μ10 fμ10 jμ10 lμ10 => ?_))
    show jV _ _ jm_p_X2_tryLayings _ 11 [some (.inr (.inr 49)), some (.inr (.inr 7)), some (.inl dd), some (.inl v), none] [] μ10
    have hHμ10 := jH_congr (fun z a b => fμ10 z (by omega) (by omega) (by omega)) hHμ
    have n3μ10 := jH_3 hHμ10
    have n2μ10 := jH_2 hHμ10
    refine jv_aload_n rfl rfl rfl (by decide) ?_
    refine jv_getr (w := 56) rfl rfl rfl ⟨by decide, rfl⟩ rfl rfl ?_
    refine jv_iconst rfl rfl ?_
    refine jv_aload_n rfl rfl rfl (by decide) ?_
    refine jv_getr (w := 50) rfl rfl rfl ⟨by decide, rfl⟩ rfl rfl ?_
    refine jv_getr (w := 51) rfl rfl rfl ⟨by decide, rfl⟩ rfl rfl ?_
    refine jv_iconst rfl rfl ?_
    refine jv_iload_n rfl rfl rfl ?_
    refine jv_acopy rfl rfl rfl rfl ⟨by decide, by decide⟩ (Nat.le_of_ble_eq_true rfl) ⟨⟨by omega, by omega, by omega⟩, by omega, by omega⟩ (fun μ19 eμ19 => ?_)
    have gμ19 : ∀ z, z ≠ 51 → μ19 z = μ10 z := fun z q => by rw [eμ19, jm_off1 q]
    have hHμ19 := jH_congr (fun z a b => gμ19 z (by omega)) hHμ10
    have n3μ19 := jH_3 hHμ19
    have hla := jpv_l hp (show ((p.length : Nat) : Int) = t 0 by omega)
    have hjw : jw (μ19 51) (μ19 52) (jF_ p) (jlay t (jF_ p)) := by
      refine ⟨fun i i0 i1 => ?_, fun i i0 i1 => ?_⟩
      · rw [jlay_o w0 (by omega)] at i1
        have r := hla.1 i i0 i1
        refine ⟨?_, ?_⟩
        · rw [eμ19, jm_uc_self]
          unfold jm_cpy
          rw [if_pos (by omega), show 0 + (i - 0) = i by omega, fμ10 56 (by decide) (by decide) (by decide)]
          exact ht i i0 (by omega)
        · rw [gμ19 52 (by decide), jlay_lies w0.2 i0 i1]
          exact (jμ10.1 _ r.1 r.2).2
      · rw [gμ19 52 (by decide), jlay_o w0 (by omega)]
        exact jμ10.2 i i0 i1
    refine jv_aload_n rfl rfl rfl (by decide) ?_
    refine jv_getr (w := 50) rfl rfl rfl ⟨by decide, rfl⟩ rfl rfl ?_
    refine jv_aload_n rfl rfl rfl (by decide) ?_
    refine jv_aload_n rfl rfl rfl (by decide) ?_
    refine jv_callV0 rfl rfl rfl rfl ⟨by decide, rfl⟩ (Nat.le_of_ble_eq_true rfl) (cl_allComers (by rw [n3μ19]; exact jb_shl6 w1.1 w1.2) ?_)
    show jV _ _ jm_p_X2_tryLayings _ 25 [some (.inr (.inr 49)), some (.inr (.inr 7)), some (.inl dd), some (.inl v), none] [.inl (jm_shl 1 (μ19 7 3) - 1), .inr (.inr 7), .inr (.inr 50)] μ19
    have hcc : (jc (fun c => decide (jm_and (jm_shr (jm_shl 1 (μ19 7 3) - 1) c) 1 = 1)) (jlay t (jF_ p)) (t 1).toNat).1 = jlc t p := by
      unfold jlc
      rw [jc_cong (b' := fun _ => true) (t 1).toNat (fun x hx => by rw [n3μ19]; exact decide_eq_true (jb_all w1.2 (by omega) (by omega)))]
    refine jv_callV2 rfl rfl rfl rfl ⟨by decide, rfl⟩ (Nat.le_of_ble_eq_true rfl) (cl_allGo (b := (fun c => decide (jm_and (jm_shr (jm_shl 1 (μ19 7 3) - 1) c) 1 = 1))) hHμ19 (jlay_wf hH.1 hla.1) (jlay_S w0 w1.2) hla (fun _ _ _ => decide_eq_true_iff) hjw (fun μ25 fμ25 jμ25 => ?_))
    rw [hcc]
    show jV _ _ jm_p_X2_tryLayings _ 26 [some (.inr (.inr 49)), some (.inr (.inr 7)), some (.inl dd), some (.inl v), none] [.inl (jlc t p)] μ25
    refine jv_istore (fun x => [some (.inr (.inr 49)), some (.inr (.inr 7)), some (.inl dd), some (.inl v), some (.inl x)]) rfl rfl (fun _ => rfl) (fun x4_26 ex4_26 => ?_)
    have e49 : μ25 49 5 = b.1 := by rw [fμ25 49 (by decide) (by decide), gμ19 49 (by decide), fμ10 49 (by decide) (by decide) (by decide)]; exact ho.1
    have fz : ∀ z, (z ≠ 49 ∧ z ≠ 51 ∧ z ≠ 52 ∧ z ≠ 53 ∧ z ≠ 57) → μ25 z = μ z := fun z q => by rw [fμ25 z (by omega) (by omega), gμ19 z (by omega), fμ10 z (by omega) (by omega) (by omega)]
    have f57 : μ25 57 = μ 57 := by rw [fμ25 57 (by decide) (by decide), gμ19 57 (by decide), fμ10 57 (by decide) (by decide) (by decide)]
    refine jv_iload rfl rfl rfl ?_
    refine jv_aload_n rfl rfl rfl (by decide) ?_
    refine jv_geti rfl rfl rfl ⟨by decide, rfl⟩ (by decide) ?_
    refine jv_icmp_ge rfl rfl rfl (fun c30 => ?_) (fun c30 => ?_)
    · refine jv_return rfl ?_
      refine kk _ (fun z q => fz z (by omega)) ?_ (fun j j0 j1 => by rw [fz 56 (by decide)])
      simp only [jdf, jup]
      rw [if_neg (by omega)]
      exact ⟨e49, fun z j j0 j1 => by rw [f57]; exact ho.2 z j j0 j1⟩
    · refine jv_aload_n rfl rfl rfl (by decide) ?_
      refine jv_iload_n rfl rfl rfl ?_
      refine jv_iload rfl rfl rfl ?_
      refine jv_callV2 rfl rfl rfl rfl ⟨by decide, rfl⟩ (Nat.le_of_ble_eq_true rfl) (cl_keepT (by omega) (fun μ34 fμ34 aμ34 bμ34 => ?_))
      show jV _ _ jm_p_X2_tryLayings _ 35 [some (.inr (.inr 49)), some (.inr (.inr 7)), some (.inl dd), some (.inl v), some (.inl x4_26)] [] μ34
      refine jv_return rfl ?_
      refine kk _ (fun z q => by rw [fμ34 z (by omega) (by omega), fz z (by omega)]) ?_ (fun j j0 j1 => by rw [fμ34 56 (by decide) (by decide), fz 56 (by decide)])
      simp only [jdf, jup]
      rw [if_pos (by omega)]
      refine ⟨by rw [aμ34]; exact ex4_26, fun z j j0 j1 => ?_⟩
      rw [bμ34 j j0 (by omega), fz 56 (by decide)]
      exact ht j j0 (by omega)
  | k + 1 => by
    intro D Q dd v p b μ hd hdn hH hp hv ht ho hb kk
    have hHμ := hH
    have n2μ := jH_2 hH
    have w0 := hH.1.1
    have w1 := hH.1.2.1
    have hlp : ((p.length : Nat) : Int) = dd := by omega
    refine jv_enter (d := D + k + 5) jm_p_X2_tryLayings [some (.inr (.inr 49)), some (.inr (.inr 7)), some (.inl dd), some (.inl v), none] rfl rfl rfl (Nat.le_of_ble_eq_true rfl) rfl rfl ?_
    refine jv_iload_n rfl rfl rfl ?_
    refine jv_aload_n rfl rfl rfl (by decide) ?_
    refine jv_geti rfl rfl rfl ⟨by decide, rfl⟩ (by decide) ?_
    refine jv_icmp_geF rfl rfl (by omega) ?_
    refine jv_iload_n rfl rfl rfl ?_
    refine jv_iconst rfl rfl ?_
    refine jv_icmp_ltT rfl rfl (by omega) ?_
    refine jv_iconst rfl rfl ?_
    refine jv_istoreK (L2 := [some (.inr (.inr 49)), some (.inr (.inr 7)), some (.inl dd), some (.inl v), some (.inl 0)]) rfl rfl rfl ?_
    exact cl_tryL_l (μ0 := μ) (cl_tryL hn k) hH hn hd hdn hp hv (fun μ2 f o p2 => kk μ2 f o (fun j j0 j1 => by rw [p2 j j0 j1, ht j j0 j1])) 9 0 μ (by omega) w0.1 (by omega) (fun _ _ => rfl) ho ht hb
set_option maxRecDepth 10000 in
theorem cl_seekL {X : jm_X} {d : Nat} {Q : jv_P} {μ : jm_M} {t : Int → Int} {n : Nat} (hHμ : jH μ t) (hn : (n : Int) = t 0) (h6 : n ≤ 4) (k : ∀ μ2, jf μ μ2 → jto μ2 (jdf (jlc t) n n [] (361, [])) n → Q [] μ2) : cV X (d + 20) 15 [.inr (.inr 49), .inr (.inr 7)] μ Q := by
  refine jv_enter (d := d + 19) jm_p_X2_seekLaying [some (.inr (.inr 49)), some (.inr (.inr 7))] rfl rfl rfl (Nat.le_of_ble_eq_true rfl) rfl rfl ?_
  refine jv_aload_n rfl rfl rfl (by decide) ?_
  refine jv_sipush rfl rfl ?_
  refine jv_puti rfl rfl rfl ⟨by decide, rfl⟩ (Or.inl rfl) (fun μ2 eμ2 => ?_)
  refine jv_aload_n rfl rfl rfl (by decide) ?_
  refine jv_aload_n rfl rfl rfl (by decide) ?_
  refine jv_iconst rfl rfl ?_
  refine jv_iconst rfl rfl ?_
  have hHμ2 : jH μ2 t := jH_congr (fun z a b => by rw [eμ2, jm_off1 (by omega)]) hHμ
  refine jv_callV3 rfl rfl rfl rfl ⟨by decide, rfl⟩ (Nat.le_of_ble_eq_true rfl) (cV_le (show 0 + n + 5 ≤ d + 19 by omega) (cl_tryL hn n 0 _ 0 0 [] (361, []) μ2 rfl (by simp) hHμ2 ⟨fun c hc => (by cases hc), fun i j i0 i1 _ _ _ => absurd i1 (by show ¬ i < ((0 : Nat) : Int); omega)⟩ jtk_0 (fun j j0 j1 => by exfalso; omega) ⟨by rw [eμ2]; rfl, fun z => by exact absurd z (by decide)⟩ (Int.le_refl _) (fun μ7 fμ7 oμ7 pμ7 => ?_)))
  show jV _ _ jm_p_X2_seekLaying _ 8 [some (.inr (.inr 49)), some (.inr (.inr 7))] [] μ7
  refine jv_return rfl ?_
  exact k _ (fun z q => by rw [fμ7 z (by omega), eμ2, jm_off1 (by omega)]) oμ7
set_option maxRecDepth 10000 in
theorem mo_layIn {X : jm_X} {d : Nat} {Q : jv_P} {t la : Int → Int} {w : Int} {μ0 : jm_M} (hU0 : jU μ0 t) (hw : jt_wf t) (hla : ∀ j, 0 ≤ j → j < t 0 → μ0 102 j = la j ∧ 0 ≤ la j ∧ la j < t 0) (hw4 : 0 ≤ w ∧ w < t 0) (k : ∀ (c : Int) (μ2 : jm_M), jr μ0 μ2 → jT μ2 (jly t la (w + 1) (6 * w + 6)) → jV X d jm_p_X10_layMats Q 55 [some (.inr (.inr 94)), some (.inl w), some (.inl c)] [] μ2) : ∀ (n : Nat) (c : Int) (μ : jm_M), 0 ≤ c → c ≤ 6 → 6 - c < n → jr μ0 μ → jT μ (jly t la (w + 1) (6 * w + c)) → jV X d jm_p_X10_layMats Q 27 [some (.inr (.inr 94)), some (.inl w), some (.inl c)] [] μ := by
  have w0 := hw.1
  intro n
  induction n with
  | zero => intro c μ y0 y1 yn hf hT; exfalso; omega
  | succ n ih =>
    intro c μ y0 y1 yn hf hT
    have hl := hla w hw4.1 hw4.2
    have hlm : μ 102 w = la w := by rw [hf.1 102 (by decide)]; exact hl.1
    have hUμ := jU_jr hf hU0
    refine jv_iload_n rfl rfl rfl ?_
    refine jv_bipush rfl rfl ?_
    refine jv_icmp_ge rfl rfl rfl (fun c29 => ?_) (fun c29 => ?_)
    · have hx : c = 6 := by omega
      rw [hx] at hT
      exact k _ _ hf hT
    · refine jv_aload_n rfl rfl rfl (by decide) ?_
      refine jv_getr (w := 95) rfl rfl rfl ⟨by decide, rfl⟩ rfl rfl ?_
      refine jv_sipush rfl rfl ?_
      refine jv_bipush rfl rfl ?_
      refine jv_iload_n rfl rfl rfl ?_
      refine jv_imul rfl rfl ⟨by omega, by omega⟩ ?_
      refine jv_iadd rfl rfl ⟨by omega, by omega⟩ ?_
      refine jv_iload_n rfl rfl rfl ?_
      refine jv_iadd rfl rfl ⟨by omega, by omega⟩ ?_
      refine jv_aload_n rfl rfl rfl (by decide) ?_
      refine jv_getr (w := 95) rfl rfl rfl ⟨by decide, rfl⟩ rfl rfl ?_
      refine jv_bipush rfl rfl ?_
      refine jv_bipush rfl rfl ?_
      refine jv_aload_n rfl rfl rfl (by decide) ?_
      refine jv_getr (w := 102) rfl rfl rfl ⟨by decide, rfl⟩ rfl rfl ?_
      refine jv_iload_n rfl rfl rfl ?_
      refine jv_iaload rfl rfl (by decide) rfl ⟨by omega, by omega⟩ ?_
      refine jv_imul rfl rfl ⟨by omega, by omega⟩ ?_
      refine jv_iadd rfl rfl ⟨by omega, by omega⟩ ?_
      refine jv_iload_n rfl rfl rfl ?_
      refine jv_iadd rfl rfl ⟨by omega, by omega⟩ ?_
      refine jv_iaload rfl rfl (by decide) rfl ⟨by omega, by omega⟩ ?_
      refine jv_iastore rfl rfl rfl (by decide) ⟨by omega, by omega⟩ (fun μ52 eμ52 => ?_)
      refine jv_iinc (fun x => [some (.inr (.inr 94)), some (.inl w), some (.inl x)]) rfl rfl rfl ⟨by omega, by omega⟩ (fun _ => rfl) (fun x2_53 ex2_53 => ?_)
      refine jv_goto rfl rfl ?_
      refine ih x2_53 μ52 (by omega) (by omega) (by omega) ⟨fun z q => by rw [eμ52, jm_off1 q, hf.1 z q], fun j q => ?_⟩ (fun j j0 j1 => ?_)
      · rw [eμ52, jm_uc_self]
        unfold jm_u1
        rw [if_neg (by omega)]
        exact hf.2 j q
      · have q := hT j j0 j1
        rw [eμ52, jm_uc_self, ex2_53]
        unfold jm_u1
        by_cases hj : 1674 + j = 1682 + 6 * w + c
        · rw [if_pos hj, hlm, hUμ (8 + 6 * la w + c) (by omega) (by omega)]
          unfold jly
          rw [if_neg (by omega), if_pos (by omega), show (j - 8) / 6 = w by omega, show (j - 8) % 6 = c by omega]
        · rw [if_neg hj, q]
          unfold jly
          by_cases h1 : 4 ≤ j ∧ j < 4 + (w + 1)
          · rw [if_pos h1, if_pos h1]
          · rw [if_neg h1, if_neg h1]
            by_cases h2 : 8 ≤ j ∧ j < 8 + (6 * w + c)
            · rw [if_pos h2, if_pos (by omega)]
            · rw [if_neg h2, if_neg (by omega)]
set_option maxRecDepth 10000 in
theorem mo_layM_l {X : jm_X} {d : Nat} {Q : jv_P} {t la : Int → Int} {μ0 : jm_M} (hU0 : jU μ0 t) (hw : jt_wf t) (hla : ∀ j, 0 ≤ j → j < t 0 → μ0 102 j = la j ∧ 0 ≤ la j ∧ la j < t 0) (k : ∀ (μ2 : jm_M), jr μ0 μ2 → jT μ2 (jlay t la) → Q [] μ2) : ∀ (n : Nat) (w : Int) (o2 : Option jm_V) (μ : jm_M), 0 ≤ w → w ≤ t 0 → t 0 - w < n → jr μ0 μ → jT μ (jly t la w (6 * w)) → jV X d jm_p_X10_layMats Q 4 [some (.inr (.inr 94)), some (.inl w), o2] [] μ := by
  have w0 := hw.1
  intro n
  induction n with
  | zero => intro w o2 μ y0 y1 yn hf hT; exfalso; omega
  | succ n ih =>
    intro w o2 μ y0 y1 yn hf hT
    have hUμ := jU_jr hf hU0
    have u0μ := hUμ 0 (by decide) (by decide)
    have hlw : w < t 0 → μ 102 w = la w ∧ 0 ≤ la w ∧ la w < t 0 := fun q => by rw [hf.1 102 (by decide)]; exact hla w y0 q
    refine jv_iload_n rfl rfl rfl ?_
    refine jv_aload_n rfl rfl rfl (by decide) ?_
    refine jv_getr (w := 95) rfl rfl rfl ⟨by decide, rfl⟩ rfl rfl ?_
    refine jv_iconst rfl rfl ?_
    refine jv_iaload rfl rfl (by decide) rfl ⟨by omega, by omega⟩ ?_
    refine jv_icmp_ge rfl rfl rfl (fun c9 => ?_) (fun c9 => ?_)
    · refine jv_return rfl ?_
      have hx : w = t 0 := by omega
      rw [hx] at hT
      exact k _ hf hT
    · refine jv_aload_n rfl rfl rfl (by decide) ?_
      refine jv_getr (w := 95) rfl rfl rfl ⟨by decide, rfl⟩ rfl rfl ?_
      refine jv_sipush rfl rfl ?_
      refine jv_iload_n rfl rfl rfl ?_
      refine jv_iadd rfl rfl ⟨by omega, by omega⟩ ?_
      refine jv_aload_n rfl rfl rfl (by decide) ?_
      refine jv_getr (w := 95) rfl rfl rfl ⟨by decide, rfl⟩ rfl rfl ?_
      refine jv_iconst rfl rfl ?_
      refine jv_aload_n rfl rfl rfl (by decide) ?_
      refine jv_getr (w := 102) rfl rfl rfl ⟨by decide, rfl⟩ rfl rfl ?_
      refine jv_iload_n rfl rfl rfl ?_
      refine jv_iaload rfl rfl (by decide) rfl ⟨by omega, by omega⟩ ?_
      refine jv_iadd rfl rfl ⟨by omega, by omega⟩ ?_
      refine jv_iaload rfl rfl (by decide) rfl ⟨by omega, by omega⟩ ?_
      refine jv_iastore rfl rfl rfl (by decide) ⟨by omega, by omega⟩ (fun μ24 eμ24 => ?_)
      have hl := hlw (by omega)
      have f24 : jr μ0 μ24 := ⟨fun z q => by rw [eμ24, jm_off1 q, hf.1 z q], fun j q => by rw [eμ24, jm_uc_self]; unfold jm_u1; rw [if_neg (by omega)]; exact hf.2 j q⟩
      have t24 : jT μ24 (jly t la (w + 1) (6 * w + 0)) := fun j j0 j1 => by
        have q := hT j j0 j1
        rw [eμ24, jm_uc_self]
        unfold jm_u1
        by_cases hj : 1674 + j = 1678 + w
        · rw [if_pos hj, hl.1, hUμ (4 + la w) (by omega) (by omega)]
          unfold jly
          rw [if_pos (by omega), show j - 4 = w by omega]
        · rw [if_neg hj, q]
          unfold jly
          by_cases h1 : 4 ≤ j ∧ j < 4 + w
          · rw [if_pos h1, if_pos (by omega)]
          · rw [if_neg h1, if_neg (show ¬ (4 ≤ j ∧ j < 4 + (w + 1)) by omega), Int.add_zero]
      refine jv_iconst rfl rfl ?_
      refine jv_istore_nK (L2 := [some (.inr (.inr 94)), some (.inl w), some (.inl 0)]) rfl rfl rfl ?_
      refine mo_layIn hU0 hw hla ⟨y0, by omega⟩ (fun c27 μ27 f27 t27 => ?_) 7 0 μ24 (by omega) (by omega) (by omega) f24 t24
      refine jv_iinc (fun x => [some (.inr (.inr 94)), some (.inl x), some (.inl c27)]) rfl rfl rfl ⟨by omega, by omega⟩ (fun _ => rfl) (fun x1_55 ex1_55 => ?_)
      refine jv_goto rfl rfl ?_
      refine ih x1_55 _ μ27 (by omega) (by omega) (by omega) f27 ?_
      rw [ex1_55, show 6 * (w + 1) = 6 * w + 6 by omega]
      exact t27
set_option maxRecDepth 10000 in
theorem mo_layM {X : jm_X} {d : Nat} {Q : jv_P} {μ : jm_M} {t la : Int → Int} (hUμ : jU μ t) (hw : jt_wf t) (hla : ∀ j, 0 ≤ j → j < t 0 → μ 102 j = la j ∧ 0 ≤ la j ∧ la j < t 0) (k : ∀ (μ2 : jm_M), jr μ μ2 → jT μ2 (jlay t la) → Q [] μ2) : cV X (d + 3) 193 [.inr (.inr 94)] μ Q := by
  refine jv_enter (d := d + 2) jm_p_X10_layMats [some (.inr (.inr 94)), none, none] rfl rfl rfl (Nat.le_of_ble_eq_true rfl) rfl rfl ?_
  refine jv_aload_n rfl rfl rfl (by decide) ?_
  refine jv_callV0 rfl rfl rfl rfl ⟨by decide, rfl⟩ (Nat.le_of_ble_eq_true rfl) (mo_layTried hUμ (fun μ1 fμ1 tμ1 => ?_))
  show jV _ _ jm_p_X10_layMats _ 2 [some (.inr (.inr 94)), none, none] [] μ1
  have hUμ1 := jU_jr fμ1 hUμ
  have u0μ1 := hUμ1 0 (by decide) (by decide)
  have u1μ1 := hUμ1 1 (by decide) (by decide)
  refine jv_iconst rfl rfl ?_
  refine jv_istore_nK (L2 := [some (.inr (.inr 94)), some (.inl 0), none]) rfl rfl rfl ?_
  refine mo_layM_l (μ0 := μ1) hUμ1 hw (fun j j0 j1 => by rw [fμ1.1 102 (by decide)]; exact hla j j0 j1) (fun μ2 f t2 => k μ2 (jr_tr fμ1 f) t2) 9 0 _ μ1 (by omega) hw.1.1 (by have := hw.1.2; omega) (jr_id _) ?_
  have e : jly t la 0 (6 * 0) = t := by
    funext j
    unfold jly
    rw [if_neg (by omega), if_neg (by omega)]
  rw [e]
  exact tμ1
set_option maxRecDepth 10000 in
set_option maxHeartbeats 1000000 in
theorem mo_laying_l {X : jm_X} {d : Nat} {Q : jv_P} {t : Int → Int} {q n0 : Int} {B : jB} {μ0 : jm_M} (hU0 : jU μ0 t) (hw : jt_wf t) (hcf : jt_cf t 99990) (hn : n0 = t 0) (k : ∀ (le : Int) (o5 : Option jm_V) (μ2 : jm_M), le = B.1 → (∀ j, 0 ≤ j → j < n0 → μ2 103 j = jF_ B.2 j) → jrl μ0 μ2 → jV X (d + 5) jm_p_X10_laying Q 48 [some (.inr (.inr 94)), some (.inl q), some (.inl n0), some (.inl le), some (.inl 0), o5] [] μ2) : ∀ (r : List (List Int)) (a : List Int) (le : Int) (b : jB) (o5 : Option jm_V) (μ : jm_M), jck n0.toNat (a :: r) = true → (∀ j, 0 ≤ j → j < n0 → μ 102 j = jF_ a j) → ((le = -1000000 ∧ b = (361, [])) ∨ (le = b.1 ∧ (0 ≤ b.1 ∧ b.1 < 361) ∧ ∀ j, 0 ≤ j → j < n0 → μ 103 j = jF_ b.2 j)) → jbf (jlc t) (a :: r) b = B → jrl μ0 μ → jV X (d + 5) jm_p_X10_laying Q 25 [some (.inr (.inr 94)), some (.inl q), some (.inl n0), some (.inl le), some (.inl 1), o5] [] μ := by
  have w0 := hw.1
  have w1 := hw.2.1
  intro r
  induction r with
  | nil =>
    intro a le b o5 μ hck hline hs hB hf
    have hac := jck_c hck
    have hUμ : jU μ t := fun j j0 j1 => by rw [hf.2 j (by omega)]; exact hU0 j j0 j1
    have u0μ := hUμ 0 (by decide) (by decide)
    have u1μ := hUμ 1 (by decide) (by decide)
    have hcong : jnk (μ 102) (n0.toNat - 1) = jnk (jF_ a) (n0.toNat - 1) ∨ n0 = 0 := by
      by_cases z : n0 = 0
      · exact Or.inr z
      · exact Or.inl (jnk_cong _ (fun j j0 j1 => hline j j0 (by omega)))
    have hp : ∀ j, 0 ≤ j → j < t 0 → 0 ≤ jF_ a j ∧ jF_ a j < t 0 := fun j j0 j1 => by have z := hac.1; have z2 := hac.2 _ (jF_mem (p := a) j0 (by omega)); omega
    have hcc := jlc_r hw (p := a) hp
    have hcb : 0 ≤ jlc t a ∧ jlc t a < 361 := by omega
    have hlast : jnk (μ 102) (n0.toNat - 1) < 0 := by
      rcases hcong with z | z
      · rw [z]; exact jck_n hck
      · rw [show n0.toNat - 1 = 0 by omega]; show (-1 : Int) < 0; decide
    refine jv_iload rfl rfl rfl ?_
    refine jv_if_eqF rfl rfl (by decide) ?_
    refine jv_aload_n rfl rfl rfl (by decide) ?_
    refine jv_callV0 rfl rfl rfl rfl ⟨by decide, rfl⟩ (Nat.le_of_ble_eq_true rfl) (mo_layM (la := jF_ a) hUμ hw (fun j j0 j1 => ⟨hline j j0 (by omega), hp j j0 j1⟩) (fun μ28 fμ28 tμ28 => ?_))
    show jV _ _ jm_p_X10_laying _ 29 [some (.inr (.inr 94)), some (.inl q), some (.inl n0), some (.inl le), some (.inl 1), o5] [] μ28
    have hUμ28 := jU_jr fμ28 hUμ
    refine jv_aload_n rfl rfl rfl (by decide) ?_
    refine jv_iconst rfl rfl ?_
    refine jv_callV1 rfl rfl rfl rfl ⟨by decide, rfl⟩ (Nat.le_of_ble_eq_true rfl) (mo_comeAll (b := fun _ => true) (la := jF_ a) hUμ28 (jlay_wf hw hp) (jlay_S w0 w1.2) (jlay_cf w0 hcf) w0.2 w1 (fun c c0 c1 => ⟨fun _ => jb_zero c0 c1, fun _ => rfl⟩) tμ28 (fun μ31 fμ31 tμ31 => ?_))
    show jV _ _ jm_p_X10_laying _ 32 [some (.inr (.inr 94)), some (.inl q), some (.inl n0), some (.inl le), some (.inl 1), o5] [.inl (jlc t a)] μ31
    have ff : jr μ μ31 := jr_tr fμ28 fμ31
    refine jv_istore (fun x => [some (.inr (.inr 94)), some (.inl q), some (.inl n0), some (.inl le), some (.inl 1), some (.inl x)]) rfl rfl (fun _ => rfl) (fun x5_32 ex5_32 => ?_)
    refine jv_iload_n rfl rfl rfl ?_
    refine jv_ldc rfl rfl ?_
    refine jv_icmp_eq rfl rfl rfl (fun c35 => ?_) (fun c35 => ?_)
    · refine jv_iload rfl rfl rfl ?_
      refine jv_istore_n (fun x => [some (.inr (.inr 94)), some (.inl q), some (.inl n0), some (.inl x), some (.inl 1), some (.inl x5_32)]) rfl rfl (fun _ => rfl) (fun x3_40 ex3_40 => ?_)
      refine jv_aload_n rfl rfl rfl (by decide) ?_
      refine jv_callV0 rfl rfl rfl rfl ⟨by decide, rfl⟩ (Nat.le_of_ble_eq_true rfl) (mo_takeLine (fun μ42 fμ42 gμ42 => ?_))
      show jV _ _ jm_p_X10_laying _ 43 [some (.inr (.inr 94)), some (.inl q), some (.inl n0), some (.inl x3_40), some (.inl 1), some (.inl x5_32)] [] μ42
      refine jv_aload_n rfl rfl rfl (by decide) ?_
      refine jv_iload_n rfl rfl rfl ?_
      have e102 : μ42 102 = μ 102 := by rw [fμ42 102 (by decide), ff.1 102 (by decide)]
      refine jv_callV1 rfl rfl rfl rfl ⟨by decide, rfl⟩ (Nat.le_of_ble_eq_true rfl) (mo_nextLine (by omega) (fun _ => ?_) (fun z => by rw [e102] at z; exact absurd hlast (by omega)))
      show jV _ _ jm_p_X10_laying _ 46 [some (.inr (.inr 94)), some (.inl q), some (.inl n0), some (.inl x3_40), some (.inl 1), some (.inl x5_32)] [.inl 0] μ42
      refine jv_istoreK (L2 := [some (.inr (.inr 94)), some (.inl q), some (.inl n0), some (.inl x3_40), some (.inl 0), some (.inl x5_32)]) rfl rfl rfl ?_
      refine jv_goto rfl rfl ?_
      have hfz : ∀ z, z ≠ 95 → z ≠ 102 → z ≠ 103 → μ42 z = μ z := fun z p r1 r2 => by rw [fμ42 z r2, ff.1 z p]
      have hfl : jrl μ0 μ42 := ⟨fun z p r1 r2 => by rw [hfz z p r1 r2, hf.1 z p r1 r2], fun j z => by rw [fμ42 95 (by decide), ff.2 j z, hf.2 j z]⟩
      have hup : jup (jlc t) a b = (jlc t a, a) := by
        unfold jup
        rw [if_pos]
        rcases hs with ⟨z1, z2⟩ | ⟨z1, z2, z3⟩
        · rw [z2]; show jlc t a < 361; omega
        · omega
      have h103 : ∀ j, 0 ≤ j → j < n0 → μ42 103 j = jF_ a j := fun j j0 j1 => by rw [gμ42 j j0 (by omega), ff.1 102 (by decide)]; exact hline j j0 j1
      simp only [jbf] at hB
      rw [hup] at hB
      refine jv_iload rfl rfl rfl ?_
      refine jv_if_eqT rfl rfl (by decide) ?_
      exact k x3_40 _ μ42 (by rw [← hB]; exact (by rw [ex3_40, ex5_32])) (by rw [← hB]; exact h103) hfl
    · refine jv_iload rfl rfl rfl ?_
      refine jv_iload_n rfl rfl rfl ?_
      refine jv_icmp_ge rfl rfl rfl (fun c38 => ?_) (fun c38 => ?_)
      · refine jv_aload_n rfl rfl rfl (by decide) ?_
        refine jv_iload_n rfl rfl rfl ?_
        have e102 : μ31 102 = μ 102 := ff.1 102 (by decide)
        refine jv_callV1 rfl rfl rfl rfl ⟨by decide, rfl⟩ (Nat.le_of_ble_eq_true rfl) (mo_nextLine (by omega) (fun _ => ?_) (fun z => by rw [e102] at z; exact absurd hlast (by omega)))
        show jV _ _ jm_p_X10_laying _ 46 [some (.inr (.inr 94)), some (.inl q), some (.inl n0), some (.inl le), some (.inl 1), some (.inl x5_32)] [.inl 0] μ31
        refine jv_istoreK (L2 := [some (.inr (.inr 94)), some (.inl q), some (.inl n0), some (.inl le), some (.inl 0), some (.inl x5_32)]) rfl rfl rfl ?_
        refine jv_goto rfl rfl ?_
        have hfz : ∀ z, z ≠ 95 → z ≠ 102 → z ≠ 103 → μ31 z = μ z := fun z p r1 r2 => by rw [ff.1 z p]
        have hfl : jrl μ0 μ31 := ⟨fun z p r1 r2 => by rw [hfz z p r1 r2, hf.1 z p r1 r2], fun j z => by rw [ff.2 j z, hf.2 j z]⟩
        have hsb : le = b.1 ∧ (0 ≤ b.1 ∧ b.1 < 361) ∧ ∀ j, 0 ≤ j → j < n0 → μ 103 j = jF_ b.2 j := by
          rcases hs with ⟨z1, z2⟩ | z
          · exact absurd z1 (by omega)
          · exact z
        have hup : jup (jlc t) a b = b := by
          unfold jup
          rw [if_neg]
          have z := hsb.1
          omega
        have h103 : ∀ j, 0 ≤ j → j < n0 → μ31 103 j = jF_ b.2 j := fun j j0 j1 => by rw [ff.1 103 (by decide)]; exact hsb.2.2 j j0 j1
        simp only [jbf] at hB
        rw [hup] at hB
        refine jv_iload rfl rfl rfl ?_
        refine jv_if_eqT rfl rfl (by decide) ?_
        exact k le _ μ31 (by rw [← hB]; exact hsb.1) (by rw [← hB]; exact h103) hfl
      · refine jv_iload rfl rfl rfl ?_
        refine jv_istore_n (fun x => [some (.inr (.inr 94)), some (.inl q), some (.inl n0), some (.inl x), some (.inl 1), some (.inl x5_32)]) rfl rfl (fun _ => rfl) (fun x3_40_1 ex3_40_1 => ?_)
        refine jv_aload_n rfl rfl rfl (by decide) ?_
        refine jv_callV0 rfl rfl rfl rfl ⟨by decide, rfl⟩ (Nat.le_of_ble_eq_true rfl) (mo_takeLine (fun μ42_1 fμ42_1 gμ42_1 => ?_))
        show jV _ _ jm_p_X10_laying _ 43 [some (.inr (.inr 94)), some (.inl q), some (.inl n0), some (.inl x3_40_1), some (.inl 1), some (.inl x5_32)] [] μ42_1
        refine jv_aload_n rfl rfl rfl (by decide) ?_
        refine jv_iload_n rfl rfl rfl ?_
        have e102 : μ42_1 102 = μ 102 := by rw [fμ42_1 102 (by decide), ff.1 102 (by decide)]
        refine jv_callV1 rfl rfl rfl rfl ⟨by decide, rfl⟩ (Nat.le_of_ble_eq_true rfl) (mo_nextLine (by omega) (fun _ => ?_) (fun z => by rw [e102] at z; exact absurd hlast (by omega)))
        show jV _ _ jm_p_X10_laying _ 46 [some (.inr (.inr 94)), some (.inl q), some (.inl n0), some (.inl x3_40_1), some (.inl 1), some (.inl x5_32)] [.inl 0] μ42_1
        refine jv_istoreK (L2 := [some (.inr (.inr 94)), some (.inl q), some (.inl n0), some (.inl x3_40_1), some (.inl 0), some (.inl x5_32)]) rfl rfl rfl ?_
        refine jv_goto rfl rfl ?_
        have hfz : ∀ z, z ≠ 95 → z ≠ 102 → z ≠ 103 → μ42_1 z = μ z := fun z p r1 r2 => by rw [fμ42_1 z r2, ff.1 z p]
        have hfl : jrl μ0 μ42_1 := ⟨fun z p r1 r2 => by rw [hfz z p r1 r2, hf.1 z p r1 r2], fun j z => by rw [fμ42_1 95 (by decide), ff.2 j z, hf.2 j z]⟩
        have hup : jup (jlc t) a b = (jlc t a, a) := by
          unfold jup
          rw [if_pos]
          rcases hs with ⟨z1, z2⟩ | ⟨z1, z2, z3⟩
          · rw [z2]; show jlc t a < 361; omega
          · omega
        have h103 : ∀ j, 0 ≤ j → j < n0 → μ42_1 103 j = jF_ a j := fun j j0 j1 => by rw [gμ42_1 j j0 (by omega), ff.1 102 (by decide)]; exact hline j j0 j1
        simp only [jbf] at hB
        rw [hup] at hB
        refine jv_iload rfl rfl rfl ?_
        refine jv_if_eqT rfl rfl (by decide) ?_
        exact k x3_40_1 _ μ42_1 (by rw [← hB]; exact (by rw [ex3_40_1, ex5_32])) (by rw [← hB]; exact h103) hfl
  | cons b2 r ih =>
    intro a le b o5 μ hck hline hs hB hf
    have hac := jck_c hck
    have hUμ : jU μ t := fun j j0 j1 => by rw [hf.2 j (by omega)]; exact hU0 j j0 j1
    have u0μ := hUμ 0 (by decide) (by decide)
    have u1μ := hUμ 1 (by decide) (by decide)
    have hcong : jnk (μ 102) (n0.toNat - 1) = jnk (jF_ a) (n0.toNat - 1) ∨ n0 = 0 := by
      by_cases z : n0 = 0
      · exact Or.inr z
      · exact Or.inl (jnk_cong _ (fun j j0 j1 => hline j j0 (by omega)))
    have hp : ∀ j, 0 ≤ j → j < t 0 → 0 ≤ jF_ a j ∧ jF_ a j < t 0 := fun j j0 j1 => by have z := hac.1; have z2 := hac.2 _ (jF_mem (p := a) j0 (by omega)); omega
    have hcc := jlc_r hw (p := a) hp
    have hcb : 0 ≤ jlc t a ∧ jlc t a < 361 := by omega
    obtain ⟨hs1, hs2, hs3⟩ := jck_s hck
    have hn1 : n0 ≠ 0 := fun z => by
      rw [show n0.toNat - 1 = 0 by omega] at hs1
      have hs1 : (0 : Int) ≤ -1 := hs1
      omega
    have hgo : 0 ≤ jnk (μ 102) (n0.toNat - 1) := by
      rcases hcong with z | z
      · rw [z]; exact hs1
      · exact absurd z hn1
    have hnx : ∀ j, 0 ≤ j → j < n0 → jnx n0.toNat (μ 102) j = jF_ b2 j := fun j j0 j1 => by
      rw [jnx_cong (n := n0.toNat) (g := jF_ a) (fun i i0 i1 => hline i i0 (by omega)) hgo j j0 (by omega)]
      exact hs2 j j0 (by omega)
    refine jv_iload rfl rfl rfl ?_
    refine jv_if_eqF rfl rfl (by decide) ?_
    refine jv_aload_n rfl rfl rfl (by decide) ?_
    refine jv_callV0 rfl rfl rfl rfl ⟨by decide, rfl⟩ (Nat.le_of_ble_eq_true rfl) (mo_layM (la := jF_ a) hUμ hw (fun j j0 j1 => ⟨hline j j0 (by omega), hp j j0 j1⟩) (fun μ28 fμ28 tμ28 => ?_))
    show jV _ _ jm_p_X10_laying _ 29 [some (.inr (.inr 94)), some (.inl q), some (.inl n0), some (.inl le), some (.inl 1), o5] [] μ28
    have hUμ28 := jU_jr fμ28 hUμ
    refine jv_aload_n rfl rfl rfl (by decide) ?_
    refine jv_iconst rfl rfl ?_
    refine jv_callV1 rfl rfl rfl rfl ⟨by decide, rfl⟩ (Nat.le_of_ble_eq_true rfl) (mo_comeAll (b := fun _ => true) (la := jF_ a) hUμ28 (jlay_wf hw hp) (jlay_S w0 w1.2) (jlay_cf w0 hcf) w0.2 w1 (fun c c0 c1 => ⟨fun _ => jb_zero c0 c1, fun _ => rfl⟩) tμ28 (fun μ31 fμ31 tμ31 => ?_))
    show jV _ _ jm_p_X10_laying _ 32 [some (.inr (.inr 94)), some (.inl q), some (.inl n0), some (.inl le), some (.inl 1), o5] [.inl (jlc t a)] μ31
    have ff : jr μ μ31 := jr_tr fμ28 fμ31
    refine jv_istore (fun x => [some (.inr (.inr 94)), some (.inl q), some (.inl n0), some (.inl le), some (.inl 1), some (.inl x)]) rfl rfl (fun _ => rfl) (fun x5_32 ex5_32 => ?_)
    refine jv_iload_n rfl rfl rfl ?_
    refine jv_ldc rfl rfl ?_
    refine jv_icmp_eq rfl rfl rfl (fun c35 => ?_) (fun c35 => ?_)
    · refine jv_iload rfl rfl rfl ?_
      refine jv_istore_n (fun x => [some (.inr (.inr 94)), some (.inl q), some (.inl n0), some (.inl x), some (.inl 1), some (.inl x5_32)]) rfl rfl (fun _ => rfl) (fun x3_40 ex3_40 => ?_)
      refine jv_aload_n rfl rfl rfl (by decide) ?_
      refine jv_callV0 rfl rfl rfl rfl ⟨by decide, rfl⟩ (Nat.le_of_ble_eq_true rfl) (mo_takeLine (fun μ42 fμ42 gμ42 => ?_))
      show jV _ _ jm_p_X10_laying _ 43 [some (.inr (.inr 94)), some (.inl q), some (.inl n0), some (.inl x3_40), some (.inl 1), some (.inl x5_32)] [] μ42
      refine jv_aload_n rfl rfl rfl (by decide) ?_
      refine jv_iload_n rfl rfl rfl ?_
      have e102 : μ42 102 = μ 102 := by rw [fμ42 102 (by decide), ff.1 102 (by decide)]
      refine jv_callV1 rfl rfl rfl rfl ⟨by decide, rfl⟩ (Nat.le_of_ble_eq_true rfl) (mo_nextLine (by omega) (fun z => by rw [e102] at z; exact absurd hgo (by omega)) (fun _ μ45 fμ45 gμ45 => ?_))
      show jV _ _ jm_p_X10_laying _ 46 [some (.inr (.inr 94)), some (.inl q), some (.inl n0), some (.inl x3_40), some (.inl 1), some (.inl x5_32)] [.inl 1] μ45
      refine jv_istoreK (L2 := [some (.inr (.inr 94)), some (.inl q), some (.inl n0), some (.inl x3_40), some (.inl 1), some (.inl x5_32)]) rfl rfl rfl ?_
      refine jv_goto rfl rfl ?_
      have hfz : ∀ z, z ≠ 95 → z ≠ 102 → z ≠ 103 → μ45 z = μ z := fun z p r1 r2 => by rw [fμ45 z r1, fμ42 z r2, ff.1 z p]
      have hfl : jrl μ0 μ45 := ⟨fun z p r1 r2 => by rw [hfz z p r1 r2, hf.1 z p r1 r2], fun j z => by rw [fμ45 95 (by decide), fμ42 95 (by decide), ff.2 j z, hf.2 j z]⟩
      have hup : jup (jlc t) a b = (jlc t a, a) := by
        unfold jup
        rw [if_pos]
        rcases hs with ⟨z1, z2⟩ | ⟨z1, z2, z3⟩
        · rw [z2]; show jlc t a < 361; omega
        · omega
      have h103 : ∀ j, 0 ≤ j → j < n0 → μ45 103 j = jF_ a j := fun j j0 j1 => by rw [fμ45 103 (by decide), gμ42 j j0 (by omega), ff.1 102 (by decide)]; exact hline j j0 j1
      simp only [jbf] at hB
      rw [hup] at hB
      exact ih b2 x3_40 (jlc t a, a) _ μ45 hs3 (fun j j0 j1 => by rw [gμ45, e102]; exact hnx j j0 j1) (Or.inr ⟨by rw [ex3_40, ex5_32], hcb, h103⟩) (by simp only [jbf]; exact hB) hfl
    · refine jv_iload rfl rfl rfl ?_
      refine jv_iload_n rfl rfl rfl ?_
      refine jv_icmp_ge rfl rfl rfl (fun c38 => ?_) (fun c38 => ?_)
      · refine jv_aload_n rfl rfl rfl (by decide) ?_
        refine jv_iload_n rfl rfl rfl ?_
        have e102 : μ31 102 = μ 102 := ff.1 102 (by decide)
        refine jv_callV1 rfl rfl rfl rfl ⟨by decide, rfl⟩ (Nat.le_of_ble_eq_true rfl) (mo_nextLine (by omega) (fun z => by rw [e102] at z; exact absurd hgo (by omega)) (fun _ μ45_1 fμ45_1 gμ45_1 => ?_))
        show jV _ _ jm_p_X10_laying _ 46 [some (.inr (.inr 94)), some (.inl q), some (.inl n0), some (.inl le), some (.inl 1), some (.inl x5_32)] [.inl 1] μ45_1
        refine jv_istoreK (L2 := [some (.inr (.inr 94)), some (.inl q), some (.inl n0), some (.inl le), some (.inl 1), some (.inl x5_32)]) rfl rfl rfl ?_
        refine jv_goto rfl rfl ?_
        have hfz : ∀ z, z ≠ 95 → z ≠ 102 → z ≠ 103 → μ45_1 z = μ z := fun z p r1 r2 => by rw [fμ45_1 z r1, ff.1 z p]
        have hfl : jrl μ0 μ45_1 := ⟨fun z p r1 r2 => by rw [hfz z p r1 r2, hf.1 z p r1 r2], fun j z => by rw [fμ45_1 95 (by decide), ff.2 j z, hf.2 j z]⟩
        have hsb : le = b.1 ∧ (0 ≤ b.1 ∧ b.1 < 361) ∧ ∀ j, 0 ≤ j → j < n0 → μ 103 j = jF_ b.2 j := by
          rcases hs with ⟨z1, z2⟩ | z
          · exact absurd z1 (by omega)
          · exact z
        have hup : jup (jlc t) a b = b := by
          unfold jup
          rw [if_neg]
          have z := hsb.1
          omega
        have h103 : ∀ j, 0 ≤ j → j < n0 → μ45_1 103 j = jF_ b.2 j := fun j j0 j1 => by rw [fμ45_1 103 (by decide), ff.1 103 (by decide)]; exact hsb.2.2 j j0 j1
        simp only [jbf] at hB
        rw [hup] at hB
        exact ih b2 le b _ μ45_1 hs3 (fun j j0 j1 => by rw [gμ45_1, e102]; exact hnx j j0 j1) (Or.inr ⟨hsb.1, hsb.2.1, h103⟩) (by simp only [jbf]; exact hB) hfl
      · refine jv_iload rfl rfl rfl ?_
        refine jv_istore_n (fun x => [some (.inr (.inr 94)), some (.inl q), some (.inl n0), some (.inl x), some (.inl 1), some (.inl x5_32)]) rfl rfl (fun _ => rfl) (fun x3_40_1 ex3_40_1 => ?_)
        refine jv_aload_n rfl rfl rfl (by decide) ?_
        refine jv_callV0 rfl rfl rfl rfl ⟨by decide, rfl⟩ (Nat.le_of_ble_eq_true rfl) (mo_takeLine (fun μ42_1 fμ42_1 gμ42_1 => ?_))
        show jV _ _ jm_p_X10_laying _ 43 [some (.inr (.inr 94)), some (.inl q), some (.inl n0), some (.inl x3_40_1), some (.inl 1), some (.inl x5_32)] [] μ42_1
        refine jv_aload_n rfl rfl rfl (by decide) ?_
        refine jv_iload_n rfl rfl rfl ?_
        have e102 : μ42_1 102 = μ 102 := by rw [fμ42_1 102 (by decide), ff.1 102 (by decide)]
        refine jv_callV1 rfl rfl rfl rfl ⟨by decide, rfl⟩ (Nat.le_of_ble_eq_true rfl) (mo_nextLine (by omega) (fun z => by rw [e102] at z; exact absurd hgo (by omega)) (fun _ μ45_2 fμ45_2 gμ45_2 => ?_))
        show jV _ _ jm_p_X10_laying _ 46 [some (.inr (.inr 94)), some (.inl q), some (.inl n0), some (.inl x3_40_1), some (.inl 1), some (.inl x5_32)] [.inl 1] μ45_2
        refine jv_istoreK (L2 := [some (.inr (.inr 94)), some (.inl q), some (.inl n0), some (.inl x3_40_1), some (.inl 1), some (.inl x5_32)]) rfl rfl rfl ?_
        refine jv_goto rfl rfl ?_
        have hfz : ∀ z, z ≠ 95 → z ≠ 102 → z ≠ 103 → μ45_2 z = μ z := fun z p r1 r2 => by rw [fμ45_2 z r1, fμ42_1 z r2, ff.1 z p]
        have hfl : jrl μ0 μ45_2 := ⟨fun z p r1 r2 => by rw [hfz z p r1 r2, hf.1 z p r1 r2], fun j z => by rw [fμ45_2 95 (by decide), fμ42_1 95 (by decide), ff.2 j z, hf.2 j z]⟩
        have hup : jup (jlc t) a b = (jlc t a, a) := by
          unfold jup
          rw [if_pos]
          rcases hs with ⟨z1, z2⟩ | ⟨z1, z2, z3⟩
          · rw [z2]; show jlc t a < 361; omega
          · omega
        have h103 : ∀ j, 0 ≤ j → j < n0 → μ45_2 103 j = jF_ a j := fun j j0 j1 => by rw [fμ45_2 103 (by decide), gμ42_1 j j0 (by omega), ff.1 102 (by decide)]; exact hline j j0 j1
        simp only [jbf] at hB
        rw [hup] at hB
        exact ih b2 x3_40_1 (jlc t a, a) _ μ45_2 hs3 (fun j j0 j1 => by rw [gμ45_2, e102]; exact hnx j j0 j1) (Or.inr ⟨by rw [ex3_40_1, ex5_32], hcb, h103⟩) (by simp only [jbf]; exact hB) hfl
set_option maxRecDepth 10000 in
set_option maxHeartbeats 1000000 in
theorem pr_laying {X : jm_X} {q : Int} (r_q : jm_r q) : jp X 108 194 [.inl q] := by
  intro μ hI
  obtain ⟨⟨hit, hlan⟩, ⟨ht0, ht1, ht2⟩, ⟨hr0, hr1, hr2⟩, ⟨hst, hfa⟩, htown, hidle, himg, hpast⟩ := id hI
  obtain ⟨hwf, hcf, hkd, hmat, hrel, hh01, hhot, hnc⟩ := id htown
  obtain ⟨⟨r0, r1, r2, r3⟩, rm, rz, rc⟩ := id hrel
  obtain ⟨w0, w1, w2, w3, w4, w6, w7, w8⟩ := id hwf
  have hcf9 : jt_cf (μ 95) 99990 := fun c a b => by have q := hcf c a b; omega
  have hHμ := jH_of hI
  have hsh : jm_shl 1 (μ 7 3) = jm_shl 1 (μ 95 1) := by rw [r3]
  have hs6 := jb_shl6 w1.1 w1.2
  have hs4 := jb_shl4 w0.1 w0.2
  refine jv_enter (d := 199) jm_p_X9_laying [some (.inr (.inr 0)), some (.inl q)] rfl rfl rfl (Nat.le_of_ble_eq_true rfl) rfl rfl ?_
  refine jv_aload_n rfl rfl rfl (by decide) ?_
  refine jv_callV0 rfl rfl rfl rfl ⟨by decide, rfl⟩ (Nat.le_of_ble_eq_true rfl) (cl_noHotel (fun b1 => ?_) (fun b1 => ?_))
  · show jV _ _ jm_p_X9_laying _ 2 [some (.inr (.inr 0)), some (.inl q)] [.inl 1] μ
    refine jv_if_eqF rfl rfl (by decide) ?_
    refine jv_ldc rfl rfl ?_
    refine jv_ireturn rfl (Or.inl rfl) ?_
    refine ⟨_, rfl, ?_⟩
    have fc : jf μ μ := jf_id μ
    have hUμ : jU μ (μ 95) := jU_jf fc
    have q94μ : μ 94 1 = μ 94 1 := by rw [fc 94 (by omega)]
    refine jv_enter (d := 199) jm_p_X10_laying [some (.inr (.inr 94)), some (.inl q), none, none, none, none] rfl rfl rfl (Nat.le_of_ble_eq_true rfl) rfl rfl ?_
    refine jv_aload_n rfl rfl rfl (by decide) ?_
    refine jv_geti rfl rfl rfl ⟨by decide, rfl⟩ (by decide) ?_
    refine jv_if_ne rfl rfl rfl (fun c2 => ?_) (fun c2 => ?_)
    · first
      | (exfalso; omega)
      | skip
        refine jv_iload_n rfl rfl rfl ?_
        refine jv_i2l rfl rfl ?_
        refine jv_ldc2_w rfl rfl ?_
        refine jv_ldc2_w rfl rfl ?_
        refine jv_callS3 rfl rfl rfl (Nat.le_of_ble_eq_true rfl) (mo_in (fun b9 => ?_) (fun b9 => ?_))
        · first
          | (exfalso; omega)
          | skip
            show jV _ _ jm_p_X10_laying _ 10 [some (.inr (.inr 94)), some (.inl q), none, none, none, none] [.inl 1] μ
            refine jv_if_neT rfl rfl (by decide) ?_
            refine jv_aload_n rfl rfl rfl (by decide) ?_
            refine jv_getr (w := 95) rfl rfl rfl ⟨by decide, rfl⟩ rfl rfl ?_
            refine jv_iconst rfl rfl ?_
            refine jv_iaload rfl rfl (by decide) rfl ⟨by omega, by omega⟩ ?_
            refine jv_istore_n (fun x => [some (.inr (.inr 94)), some (.inl q), some (.inl x), none, none, none]) rfl rfl (fun _ => rfl) (fun x2_17 ex2_17 => ?_)
            refine jv_ldc rfl rfl ?_
            refine jv_istore_nK (L2 := [some (.inr (.inr 94)), some (.inl q), some (.inl x2_17), some (.inl (-1000000)), none, none]) rfl rfl rfl ?_
            refine jv_iconst rfl rfl ?_
            refine jv_istoreK (L2 := [some (.inr (.inr 94)), some (.inl q), some (.inl x2_17), some (.inl (-1000000)), some (.inl 1), none]) rfl rfl rfl ?_
            refine jv_aload_n rfl rfl rfl (by decide) ?_
            refine jv_iload_n rfl rfl rfl ?_
            refine jv_callV1 rfl rfl rfl rfl ⟨by decide, rfl⟩ (Nat.le_of_ble_eq_true rfl) (mo_layLine (by omega) (fun ν24 fν24 gν24 => ?_))
            show jV _ _ jm_p_X10_laying _ 25 [some (.inr (.inr 94)), some (.inl q), some (.inl x2_17), some (.inl (-1000000)), some (.inl 1), none] [] ν24
            exfalso; omega
        · first
          | (exfalso; omega)
          | skip
            show jV _ _ jm_p_X10_laying _ 10 [some (.inr (.inr 94)), some (.inl q), none, none, none, none] [.inl 0] μ
            refine jv_if_neF rfl rfl (by decide) ?_
            refine jv_ldc rfl rfl ?_
            refine jv_ireturn rfl (Or.inl rfl) ?_
            exact ⟨jv_one (by omega), jI_pair hI fc (jr_id _)⟩
    · first
      | (exfalso; omega)
      | skip
        refine jv_ldc rfl rfl ?_
        refine jv_ireturn rfl (Or.inl rfl) ?_
        exact ⟨jv_one (by omega), jI_pair hI fc (jr_id _)⟩
  · show jV _ _ jm_p_X9_laying _ 2 [some (.inr (.inr 0)), some (.inl q)] [.inl 0] μ
    refine jv_if_eqT rfl rfl (by decide) ?_
    refine jv_iload_n rfl rfl rfl ?_
    refine jv_iconst rfl rfl ?_
    refine jv_icmp_lt rfl rfl rfl (fun c7 => ?_) (fun c7 => ?_)
    · refine jv_ldc rfl rfl ?_
      refine jv_ireturn rfl (Or.inl rfl) ?_
      refine ⟨_, rfl, ?_⟩
      have fc : jf μ μ := jf_id μ
      have hUμ : jU μ (μ 95) := jU_jf fc
      have q94μ : μ 94 1 = μ 94 1 := by rw [fc 94 (by omega)]
      refine jv_enter (d := 199) jm_p_X10_laying [some (.inr (.inr 94)), some (.inl q), none, none, none, none] rfl rfl rfl (Nat.le_of_ble_eq_true rfl) rfl rfl ?_
      refine jv_aload_n rfl rfl rfl (by decide) ?_
      refine jv_geti rfl rfl rfl ⟨by decide, rfl⟩ (by decide) ?_
      refine jv_if_ne rfl rfl rfl (fun c2 => ?_) (fun c2 => ?_)
      · first
        | (exfalso; omega)
        | skip
          refine jv_iload_n rfl rfl rfl ?_
          refine jv_i2l rfl rfl ?_
          refine jv_ldc2_w rfl rfl ?_
          refine jv_ldc2_w rfl rfl ?_
          refine jv_callS3 rfl rfl rfl (Nat.le_of_ble_eq_true rfl) (mo_in (fun b9 => ?_) (fun b9 => ?_))
          · first
            | (exfalso; omega)
            | skip
              show jV _ _ jm_p_X10_laying _ 10 [some (.inr (.inr 94)), some (.inl q), none, none, none, none] [.inl 1] μ
              refine jv_if_neT rfl rfl (by decide) ?_
              refine jv_aload_n rfl rfl rfl (by decide) ?_
              refine jv_getr (w := 95) rfl rfl rfl ⟨by decide, rfl⟩ rfl rfl ?_
              refine jv_iconst rfl rfl ?_
              refine jv_iaload rfl rfl (by decide) rfl ⟨by omega, by omega⟩ ?_
              refine jv_istore_n (fun x => [some (.inr (.inr 94)), some (.inl q), some (.inl x), none, none, none]) rfl rfl (fun _ => rfl) (fun x2_17 ex2_17 => ?_)
              refine jv_ldc rfl rfl ?_
              refine jv_istore_nK (L2 := [some (.inr (.inr 94)), some (.inl q), some (.inl x2_17), some (.inl (-1000000)), none, none]) rfl rfl rfl ?_
              refine jv_iconst rfl rfl ?_
              refine jv_istoreK (L2 := [some (.inr (.inr 94)), some (.inl q), some (.inl x2_17), some (.inl (-1000000)), some (.inl 1), none]) rfl rfl rfl ?_
              refine jv_aload_n rfl rfl rfl (by decide) ?_
              refine jv_iload_n rfl rfl rfl ?_
              refine jv_callV1 rfl rfl rfl rfl ⟨by decide, rfl⟩ (Nat.le_of_ble_eq_true rfl) (mo_layLine (by omega) (fun ν24 fν24 gν24 => ?_))
              show jV _ _ jm_p_X10_laying _ 25 [some (.inr (.inr 94)), some (.inl q), some (.inl x2_17), some (.inl (-1000000)), some (.inl 1), none] [] ν24
              exfalso; omega
          · first
            | (exfalso; omega)
            | skip
              show jV _ _ jm_p_X10_laying _ 10 [some (.inr (.inr 94)), some (.inl q), none, none, none, none] [.inl 0] μ
              refine jv_if_neF rfl rfl (by decide) ?_
              refine jv_ldc rfl rfl ?_
              refine jv_ireturn rfl (Or.inl rfl) ?_
              exact ⟨jv_one (by omega), jI_pair hI fc (jr_id _)⟩
      · first
        | (exfalso; omega)
        | skip
          refine jv_ldc rfl rfl ?_
          refine jv_ireturn rfl (Or.inl rfl) ?_
          exact ⟨jv_one (by omega), jI_pair hI fc (jr_id _)⟩
    · refine jv_iload_n rfl rfl rfl ?_
      refine jv_iconst rfl rfl ?_
      refine jv_icmp_lt rfl rfl rfl (fun c10 => ?_) (fun c10 => ?_)
      · refine jv_aload_n rfl rfl rfl (by decide) ?_
        refine jv_getr (w := 49) rfl rfl rfl ⟨by decide, rfl⟩ rfl rfl ?_
        refine jv_aload_n rfl rfl rfl (by decide) ?_
        refine jv_getr (w := 7) rfl rfl rfl ⟨by decide, rfl⟩ rfl rfl ?_
        refine jv_callV1 rfl rfl rfl rfl ⟨by decide, rfl⟩ (Nat.le_of_ble_eq_true rfl) (cl_seekL (n := (μ 95 0).toNat) hHμ (by omega) (by omega) (fun μ17 fμ17 oμ17 => ?_))
        show jV _ _ jm_p_X9_laying _ 18 [some (.inr (.inr 0)), some (.inl q)] [] μ17
        have hHμ17 := jH_jf fμ17 hHμ
        have n2μ17 := jH_2 hHμ17
        refine jv_aload_n rfl rfl rfl (by decide) ?_
        refine jv_getr (w := 49) rfl rfl rfl ⟨by decide, rfl⟩ rfl rfl ?_
        refine jv_iload_n rfl rfl rfl ?_
        refine jv_aload_n rfl rfl rfl (by decide) ?_
        refine jv_getr (w := 7) rfl rfl rfl ⟨by decide, rfl⟩ rfl rfl ?_
        refine jv_geti rfl rfl rfl ⟨by decide, rfl⟩ (by decide) ?_
        refine jv_callV2 rfl rfl rfl rfl ⟨by decide, rfl⟩ (Nat.le_of_ble_eq_true rfl) (cl_told (by omega) ?_)
        show jV _ _ jm_p_X9_laying _ 25 [some (.inr (.inr 0)), some (.inl q)] [.inl (if q = -1 then μ17 49 5 else if 0 ≤ q ∧ q < (μ17 7 2) then μ17 57 q else -1000000)] μ17
        refine jv_ireturn rfl (Or.inl rfl) ?_
        refine ⟨_, rfl, ?_⟩
        have fc : jf μ μ17 := fμ17
        have hUμ17 : jU μ17 (μ 95) := jU_jf fc
        have u0μ17 := hUμ17 0 (by decide) (by decide)
        have u1μ17 := hUμ17 1 (by decide) (by decide)
        have q94μ17 : μ17 94 1 = μ 94 1 := by rw [fc 94 (by omega)]
        refine jv_enter (d := 199) jm_p_X10_laying [some (.inr (.inr 94)), some (.inl q), none, none, none, none] rfl rfl rfl (Nat.le_of_ble_eq_true rfl) rfl rfl ?_
        refine jv_aload_n rfl rfl rfl (by decide) ?_
        refine jv_geti rfl rfl rfl ⟨by decide, rfl⟩ (by decide) ?_
        refine jv_if_ne rfl rfl rfl (fun c2 => ?_) (fun c2 => ?_)
        · first
          | (exfalso; omega)
          | skip
            refine jv_iload_n rfl rfl rfl ?_
            refine jv_i2l rfl rfl ?_
            refine jv_ldc2_w rfl rfl ?_
            refine jv_ldc2_w rfl rfl ?_
            refine jv_callS3 rfl rfl rfl (Nat.le_of_ble_eq_true rfl) (mo_in (fun b9 => ?_) (fun b9 => ?_))
            · first
              | (exfalso; omega)
              | skip
                show jV _ _ jm_p_X10_laying _ 10 [some (.inr (.inr 94)), some (.inl q), none, none, none, none] [.inl 1] μ17
                refine jv_if_neT rfl rfl (by decide) ?_
                refine jv_aload_n rfl rfl rfl (by decide) ?_
                refine jv_getr (w := 95) rfl rfl rfl ⟨by decide, rfl⟩ rfl rfl ?_
                refine jv_iconst rfl rfl ?_
                refine jv_iaload rfl rfl (by decide) rfl ⟨by omega, by omega⟩ ?_
                refine jv_istore_n (fun x => [some (.inr (.inr 94)), some (.inl q), some (.inl x), none, none, none]) rfl rfl (fun _ => rfl) (fun x2_17 ex2_17 => ?_)
                refine jv_ldc rfl rfl ?_
                refine jv_istore_nK (L2 := [some (.inr (.inr 94)), some (.inl q), some (.inl x2_17), some (.inl (-1000000)), none, none]) rfl rfl rfl ?_
                refine jv_iconst rfl rfl ?_
                refine jv_istoreK (L2 := [some (.inr (.inr 94)), some (.inl q), some (.inl x2_17), some (.inl (-1000000)), some (.inl 1), none]) rfl rfl rfl ?_
                refine jv_aload_n rfl rfl rfl (by decide) ?_
                refine jv_iload_n rfl rfl rfl ?_
                refine jv_callV1 rfl rfl rfl rfl ⟨by decide, rfl⟩ (Nat.le_of_ble_eq_true rfl) (mo_layLine (by omega) (fun ν24 fν24 gν24 => ?_))
                show jV _ _ jm_p_X10_laying _ 25 [some (.inr (.inr 94)), some (.inl q), some (.inl x2_17), some (.inl (-1000000)), some (.inl 1), none] [] ν24
                obtain ⟨a0, r0, ea0, ha0, hi0⟩ := jck_p (μ 95 0).toNat (by omega)
                have hB0 : jdf (jlc (μ 95)) (μ 95 0).toNat (μ 95 0).toNat [] (361, []) = jbf (jlc (μ 95)) (a0 :: r0) (361, []) := by rw [jdf_bf, ea0]
                have hen : x2_17 = μ 95 0 := by omega
                rw [hB0] at oμ17
                have hULL : jU ν24 (μ 95) := fun j j0 j1 => by rw [fν24 95 (by decide)]; exact hUμ17 j j0 j1
                refine mo_laying_l (B := jbf (jlc (μ 95)) (a0 :: r0) (361, [])) hULL hwf hcf9 hen (fun le2 o5 μz ez gz fz => ?_) r0 a0 (-1000000) (361, []) _ ν24 (by rw [hen]; exact ha0) (fun j j0 j1 => by rw [gν24 j j0 j1]; exact (hi0 j j0 (by omega)).symm) (Or.inl ⟨rfl, rfl⟩) rfl ⟨fun _ _ _ _ => rfl, fun _ _ => rfl⟩
                have hlt : (jbf (jlc (μ 95)) (a0 :: r0) (361, [])).1 < 361 := by
                  have za := jck_c ha0
                  have zi := jlc_r hwf (p := a0) (fun j j0 j1 => by have z1 := za.1; have z2 := za.2 _ (jF_mem (p := a0) j0 (by omega)); omega)
                  have zl := jbf_le (cost := (jlc (μ 95))) r0 (jup (jlc (μ 95)) a0 (361, []))
                  have zu : (jup (jlc (μ 95)) a0 (361, [])).1 < 361 := by
                    have z5 : jlc (μ 95) a0 < 361 := by omega
                    unfold jup
                    rw [if_pos z5]
                    exact z5
                  simp only [jbf]
                  omega
                have hz1 := oμ17.1
                have hz2 : 0 ≤ q → q < μ 95 0 → μ17 57 q = jF_ (jbf (jlc (μ 95)) (a0 :: r0) (361, [])).2 q := fun z1 z2 => oμ17.2 hlt q z1 (by omega)
                have hz3 : 0 ≤ q → q < μ 95 0 → μz 103 q = jF_ (jbf (jlc (μ 95)) (a0 :: r0) (361, [])).2 q := fun z1 z2 => gz q z1 (by omega)
                have hIz : jI μz := jI_trial hI (fun z p => by rw [fz.1 z p.1 (by omega) (by omega), fν24 z (by omega), fc z (by omega)]) (fun j p => by rw [fz.2 j p, fν24 95 (by decide), fc 95 (by omega)])
                refine jv_iload_n rfl rfl rfl ?_
                refine jv_if_ge rfl rfl rfl (fun c49 => ?_) (fun c49 => ?_)
                · first
                  | (exfalso; omega)
                  | skip
                    refine jv_iload_n rfl rfl rfl ?_
                    refine jv_iload_n rfl rfl rfl ?_
                    refine jv_icmp_ge rfl rfl rfl (fun c54 => ?_) (fun c54 => ?_)
                    · first
                      | (exfalso; omega)
                      | skip
                        refine jv_ldc rfl rfl ?_
                        refine jv_ireturn rfl (Or.inl rfl) ?_
                        exact ⟨jv_one (by (repeat' split) <;> omega), hIz⟩
                    · first
                      | (exfalso; omega)
                      | skip
                        refine jv_aload_n rfl rfl rfl (by decide) ?_
                        refine jv_getr (w := 103) rfl rfl rfl ⟨by decide, rfl⟩ rfl rfl ?_
                        refine jv_iload_n rfl rfl rfl ?_
                        refine jv_iaload rfl rfl (by decide) rfl ⟨by omega, by omega⟩ ?_
                        refine jv_goto rfl rfl ?_
                        refine jv_ireturn rfl (Or.inl rfl) ?_
                        exact ⟨jv_one (by (repeat' split) <;> omega), hIz⟩
                · first
                  | (exfalso; omega)
                  | skip
                    refine jv_iload_n rfl rfl rfl ?_
                    refine jv_goto rfl rfl ?_
                    refine jv_ireturn rfl (Or.inl rfl) ?_
                    exact ⟨jv_one (by (repeat' split) <;> omega), hIz⟩
            · first
              | (exfalso; omega)
              | skip
                show jV _ _ jm_p_X10_laying _ 10 [some (.inr (.inr 94)), some (.inl q), none, none, none, none] [.inl 0] μ17
                refine jv_if_neF rfl rfl (by decide) ?_
                refine jv_ldc rfl rfl ?_
                refine jv_ireturn rfl (Or.inl rfl) ?_
                exact ⟨jv_one (by omega), jI_pair hI fc (jr_id _)⟩
        · first
          | (exfalso; omega)
          | skip
            refine jv_ldc rfl rfl ?_
            refine jv_ireturn rfl (Or.inl rfl) ?_
            exact ⟨jv_one (by omega), jI_pair hI fc (jr_id _)⟩
      · refine jv_ldc rfl rfl ?_
        refine jv_ireturn rfl (Or.inl rfl) ?_
        refine ⟨_, rfl, ?_⟩
        have fc : jf μ μ := jf_id μ
        have hUμ : jU μ (μ 95) := jU_jf fc
        have q94μ : μ 94 1 = μ 94 1 := by rw [fc 94 (by omega)]
        refine jv_enter (d := 199) jm_p_X10_laying [some (.inr (.inr 94)), some (.inl q), none, none, none, none] rfl rfl rfl (Nat.le_of_ble_eq_true rfl) rfl rfl ?_
        refine jv_aload_n rfl rfl rfl (by decide) ?_
        refine jv_geti rfl rfl rfl ⟨by decide, rfl⟩ (by decide) ?_
        refine jv_if_ne rfl rfl rfl (fun c2 => ?_) (fun c2 => ?_)
        · first
          | (exfalso; omega)
          | skip
            refine jv_iload_n rfl rfl rfl ?_
            refine jv_i2l rfl rfl ?_
            refine jv_ldc2_w rfl rfl ?_
            refine jv_ldc2_w rfl rfl ?_
            refine jv_callS3 rfl rfl rfl (Nat.le_of_ble_eq_true rfl) (mo_in (fun b9 => ?_) (fun b9 => ?_))
            · first
              | (exfalso; omega)
              | skip
                show jV _ _ jm_p_X10_laying _ 10 [some (.inr (.inr 94)), some (.inl q), none, none, none, none] [.inl 1] μ
                refine jv_if_neT rfl rfl (by decide) ?_
                refine jv_aload_n rfl rfl rfl (by decide) ?_
                refine jv_getr (w := 95) rfl rfl rfl ⟨by decide, rfl⟩ rfl rfl ?_
                refine jv_iconst rfl rfl ?_
                refine jv_iaload rfl rfl (by decide) rfl ⟨by omega, by omega⟩ ?_
                refine jv_istore_n (fun x => [some (.inr (.inr 94)), some (.inl q), some (.inl x), none, none, none]) rfl rfl (fun _ => rfl) (fun x2_17 ex2_17 => ?_)
                refine jv_ldc rfl rfl ?_
                refine jv_istore_nK (L2 := [some (.inr (.inr 94)), some (.inl q), some (.inl x2_17), some (.inl (-1000000)), none, none]) rfl rfl rfl ?_
                refine jv_iconst rfl rfl ?_
                refine jv_istoreK (L2 := [some (.inr (.inr 94)), some (.inl q), some (.inl x2_17), some (.inl (-1000000)), some (.inl 1), none]) rfl rfl rfl ?_
                refine jv_aload_n rfl rfl rfl (by decide) ?_
                refine jv_iload_n rfl rfl rfl ?_
                refine jv_callV1 rfl rfl rfl rfl ⟨by decide, rfl⟩ (Nat.le_of_ble_eq_true rfl) (mo_layLine (by omega) (fun ν24 fν24 gν24 => ?_))
                show jV _ _ jm_p_X10_laying _ 25 [some (.inr (.inr 94)), some (.inl q), some (.inl x2_17), some (.inl (-1000000)), some (.inl 1), none] [] ν24
                exfalso; omega
            · first
              | (exfalso; omega)
              | skip
                show jV _ _ jm_p_X10_laying _ 10 [some (.inr (.inr 94)), some (.inl q), none, none, none, none] [.inl 0] μ
                refine jv_if_neF rfl rfl (by decide) ?_
                refine jv_ldc rfl rfl ?_
                refine jv_ireturn rfl (Or.inl rfl) ?_
                exact ⟨jv_one (by omega), jI_pair hI fc (jr_id _)⟩
        · first
          | (exfalso; omega)
          | skip
            refine jv_ldc rfl rfl ?_
            refine jv_ireturn rfl (Or.inl rfl) ?_
            exact ⟨jv_one (by omega), jI_pair hI fc (jr_id _)⟩
