def jt_rp (f : Int → Int) (v w : Int) : Int → Int := fun j => if 38 ≤ j ∧ j < 38 + w then min 60 (f j + v) else f j
theorem jt_rp_o {f : Int → Int} {v w j : Int} (h : j < 38 ∨ 38 + w ≤ j) : jt_rp f v w j = f j := by
  unfold jt_rp
  rw [if_neg (by omega)]
theorem jt_rp_0 {f : Int → Int} {v : Int} : jt_rp f v 0 = f := by
  funext j
  exact jt_rp_o (by omega)
theorem jt_rp_wf {t : Int → Int} {v w : Int} (hv : 1 ≤ v) (hw6 : w ≤ 6) (hw : jt_wf t) : jt_wf (jt_rp t v w) := by
  obtain ⟨w0, w1, w2, w3, w4, w6, w7, w8⟩ := hw
  have o := fun j h => jt_rp_o (f := t) (v := v) (w := w) (j := j) h
  refine ⟨by rw [o 0 (by omega)]; exact w0, by rw [o 1 (by omega)]; exact w1, by rw [o 2 (by omega)]; exact w2, by rw [o 3 (by omega)]; exact w3, fun a a0 a1 => by rw [o _ (by omega)]; exact w4 a a0 a1, fun j j0 j1 => by rw [o _ (by omega)]; exact w6 j j0 j1, fun a a0 a1 => ?_, fun x x0 x1 => ?_⟩
  · have q := w7 a a0 a1
    unfold jt_lies at q ⊢
    rw [o _ (by omega), o _ (by omega), o _ (by omega), o _ (by omega), o _ (by omega), o _ (by omega), o 2 (by omega)]
    exact q
  · have q := w8 x x0 x1
    rw [o (32 + x) (by omega), o (44 + x) (by omega), o (50 + x) (by omega)]
    refine ⟨q.1, ?_, q.2.2⟩
    unfold jt_rp
    split <;> omega
theorem jt_same_rp {t : Int → Int} {v w : Int} (h1 : t 1 ≤ 6) (hw6 : w ≤ 6) : jt_same t (jt_rp t v w) := by
  have o := fun j h => jt_rp_o (f := t) (v := v) (w := w) (j := j) h
  refine ⟨o 0 (by omega), o 1 (by omega), o 2 (by omega), o 3 (by omega), fun x x0 x1 => ?_⟩
  rw [o (32 + x) (by omega), o (44 + x) (by omega), o (50 + x) (by omega)]
  exact ⟨rfl, rfl, rfl⟩
theorem jt_cf_rp {t : Int → Int} {v w K : Int} (hw6 : w ≤ 6) (h : jt_cf t K) : jt_cf (jt_rp t v w) K := fun x x0 x1 => by
  rw [jt_rp_o (by omega)]
  exact h x x0 x1
theorem jrel_rain {μ μ2 : jm_M} {t : Int → Int} {v w : Int} (hw : jt_wf t) (hw4 : 0 ≤ w ∧ w < t 1) (hmat : jh_mats μ 7) (hr : jh_rel μ 7 (jt_rp t v w)) (f : ∀ u, u ≠ 18 + w → μ2 u = μ u) (e : μ2 (18 + w) = jm_u1 (μ (18 + w)) 1 (min 60 (t (38 + w) + v))) : jh_rel μ2 7 (jt_rp t v (w + 1)) := by
  have w0 := hw.1
  have w1 := hw.2.1
  have dm : ∀ m, 0 ≤ m → m < 4 → μ 8 m = 7 + 3 ∨ μ 8 m = 7 + 5 ∨ μ 8 m = 7 + 7 ∨ μ 8 m = 7 + 9 := hmat.1
  have o : ∀ j, j ≠ 38 + w → jt_rp t v (w + 1) j = jt_rp t v w j := fun j h => by
    unfold jt_rp
    by_cases q : 38 ≤ j ∧ j < 38 + w
    · rw [if_pos q, if_pos (by omega)]
    · rw [if_neg q, if_neg (by omega)]
  have o0 : ∀ j, j < 38 ∨ 44 ≤ j → jt_rp t v w j = t j := fun j h => jt_rp_o (by omega)
  obtain ⟨⟨r0, r1, r2, r3⟩, rm, rz, rc⟩ := hr
  have rm' : ∀ m, 0 ≤ m → m < jt_rp t v w 0 → μ (μ 8 m) 0 = jt_rp t v w (4 + m) ∧ ∀ k, 0 ≤ k → k < 6 → μ (μ 8 m + 1) k = jt_rp t v w (8 + 6 * m + k) := rm
  have rz' : ∀ m, jt_rp t v w 0 ≤ m → m < 4 → ∀ k, 0 ≤ k → k < 6 → μ (μ 8 m + 1) k = 0 := rz
  have rc' : ∀ x, 0 ≤ x → x < jt_rp t v w 1 → μ (18 + x) 0 = jt_rp t v w (32 + x) ∧ μ (18 + x) 1 = jt_rp t v w (38 + x) ∧ μ (18 + x) 2 = jt_rp t v w (44 + x) ∧ μ (18 + x) 3 = jt_rp t v w (50 + x) ∧ μ (18 + x) 4 = jt_rp t v w (56 + x) := rc
  have e8 : μ2 8 = μ 8 := f 8 (by omega)
  have e7 : μ2 7 = μ 7 := f 7 (by omega)
  have z0 := o0 0 (by omega)
  have z1 := o0 1 (by omega)
  refine ⟨⟨by rw [e7, o 2 (by omega)]; exact r0, by rw [e7, o 3 (by omega)]; exact r1, by rw [e7, o 0 (by omega)]; exact r2, by rw [e7, o 1 (by omega)]; exact r3⟩, fun a a0 a1 => ?_, fun a a0 a1 k k0 k1 => ?_, fun x x0 x1 => ?_⟩
  · rw [o 0 (by omega)] at a1
    show μ2 (μ2 8 a) 0 = _ ∧ ∀ k, 0 ≤ k → k < 6 → μ2 (μ2 8 a + 1) k = _
    have da := dm a a0 (by omega)
    rw [e8, f (μ 8 a) (by omega), o (4 + a) (by omega)]
    refine ⟨(rm' a a0 a1).1, fun k k0 k1 => ?_⟩
    rw [f (μ 8 a + 1) (by omega), o _ (by omega)]
    exact (rm' a a0 a1).2 k k0 k1
  · rw [o 0 (by omega)] at a0
    show μ2 (μ2 8 a + 1) k = 0
    have da := dm a (by omega) a1
    rw [e8, f (μ 8 a + 1) (by omega)]
    exact rz' a a0 a1 k k0 k1
  · rw [o 1 (by omega)] at x1
    show μ2 (18 + x) 0 = _ ∧ μ2 (18 + x) 1 = _ ∧ μ2 (18 + x) 2 = _ ∧ μ2 (18 + x) 3 = _ ∧ μ2 (18 + x) 4 = _
    rw [o (32 + x) (by omega), o (44 + x) (by omega), o (50 + x) (by omega), o (56 + x) (by omega)]
    have q := rc' x x0 x1
    by_cases hx : x = w
    · rw [hx, e]
      rw [hx] at q
      refine ⟨q.1, ?_, q.2.2.1, q.2.2.2.1, q.2.2.2.2⟩
      show min 60 (t (38 + w) + v) = jt_rp t v (w + 1) (38 + w)
      unfold jt_rp
      rw [if_pos (by omega)]
    · rw [f (18 + x) (by omega), o (38 + x) (by omega)]
      exact q
def jrs (t : Int → Int) (v : Int) : Int → Int := fun c => min 60 (t (38 + c) + v)
theorem jrs_r {t : Int → Int} (hw : jt_wf t) {v : Int} (hv : 1 ≤ v) (k : Nat) (hk : k ≤ 6) : 0 ≤ jsum (jrs t v) k ∧ jsum (jrs t v) k ≤ 1000000 * k := jsum_r k (fun x hx => by
  have q := hw.2.2.2.2.2.2.2 x (by omega) (by omega)
  unfold jrs
  omega)
set_option maxRecDepth 10000 in
theorem cl_rain_l {X : jm_X} {d : Nat} {Q : jv_P} {t : Int → Int} {v : Int} {μ0 : jm_M} (hw : jt_wf t) (hv : 1 ≤ v ∧ v ≤ 20) (hm0 : jh_mats μ0 7) (hn : μ0 7 3 = t 1) (k : ∀ μ2, (∀ z, (z < 18 ∨ 23 < z) → μ2 z = μ0 z) → jh_rel μ2 7 (jt_rp t v (t 1)) → Q [.inl (jsum (jrs t v) (t 1).toNat)] μ2) : ∀ (n : Nat) (y w : Int) (μ : jm_M), 0 ≤ w → w ≤ t 1 → t 1 - w < n → y = jsum (jrs t v) w.toNat → (∀ z, (z < 18 ∨ 23 < z) → μ z = μ0 z) → jh_rel μ 7 (jt_rp t v w) → jV X d jm_p_X4_rainOnAll Q 4 [some (.inr (.inr 7)), some (.inl v), some (.inl y), some (.inl w)] [] μ := by
  have w1 := hw.2.1
  intro n
  induction n with
  | zero => intro y w μ y0 y1 yn ey hf hr; exfalso; omega
  | succ n ih =>
    intro y w μ y0 y1 yn ey hf hr
    have f73 : μ 7 3 = t 1 := by rw [hf 7 (by omega)]; exact hn
    have hr6 := jrs_r hw hv.1 w.toNat (by omega)
    have z1 := jt_rp_o (f := t) (v := v) (w := w) (j := 1) (by omega)
    have hso : w < t 1 → μ (18 + w) 1 = t (38 + w) ∧ 0 ≤ t (38 + w) ∧ t (38 + w) ≤ 60 := fun q => by
      have q2 : μ (18 + w) 1 = jt_rp t v w (38 + w) := (hr.2.2.2 w y0 (by omega)).2.1
      rw [jt_rp_o (by omega)] at q2
      exact ⟨q2, (hw.2.2.2.2.2.2.2 w y0 (by omega)).2.1⟩
    refine jv_iload_n rfl rfl rfl ?_
    refine jv_aload_n rfl rfl rfl (by decide) ?_
    refine jv_geti rfl rfl rfl ⟨by decide, rfl⟩ (by decide) ?_
    refine jv_icmp_ge rfl rfl rfl (fun c7 => ?_) (fun c7 => ?_)
    · refine jv_iload_n rfl rfl rfl ?_
      refine jv_ireturn rfl (Or.inl rfl) ?_
      have hx : w = t 1 := by omega
      rw [hx] at hr ey
      rw [ey]
      exact k _ hf hr
    · refine jv_aload_n rfl rfl rfl (by decide) ?_
      refine jv_getr (w := 9) rfl rfl rfl ⟨by decide, rfl⟩ rfl rfl ?_
      refine jv_iload_n rfl rfl rfl ?_
      refine jv_aaloadv (v := 18 + w) rfl rfl rfl ⟨by decide, by decide, by decide⟩ ⟨by omega, by omega⟩ (by rw [hf 9 (by omega)]; exact hm0.2.2 w (by omega) (by omega)) ?_
      refine jv_bipush rfl rfl ?_
      refine jv_aload_n rfl rfl rfl (by decide) ?_
      refine jv_getr (w := 9) rfl rfl rfl ⟨by decide, rfl⟩ rfl rfl ?_
      refine jv_iload_n rfl rfl rfl ?_
      refine jv_aaloadv (v := 18 + w) rfl rfl rfl ⟨by decide, by decide, by decide⟩ ⟨by omega, by omega⟩ (by rw [hf 9 (by omega)]; exact hm0.2.2 w (by omega) (by omega)) ?_
      refine jv_geti rfl rfl (jz_com7 (by omega) (by omega)).1 ⟨by omega, rfl⟩ (by decide) ?_
      refine jv_iload_n rfl rfl rfl ?_
      refine jv_iadd rfl rfl ⟨by omega, by omega⟩ ?_
      refine jv_min rfl rfl (Nat.le_of_ble_eq_true rfl) ?_
      refine jv_puti rfl rfl (jz_com7 (by omega) (by omega)).1 ⟨by omega, rfl⟩ (Or.inl rfl) (fun μ21 eμ21 => ?_)
      have hs1 := hso (by omega)
      rw [hs1.1] at eμ21
      have fμ21 : ∀ u, u ≠ 18 + w → μ21 u = μ u := fun u q => by rw [eμ21, jm_off1 q]
      have vμ21 : μ21 (18 + w) 1 = min 60 (t (38 + w) + v) := by rw [eμ21, jm_uc_self]; rfl
      refine jv_iload_n rfl rfl rfl ?_
      refine jv_aload_n rfl rfl rfl (by decide) ?_
      refine jv_getr (w := 9) rfl rfl rfl ⟨by decide, rfl⟩ rfl rfl ?_
      refine jv_iload_n rfl rfl rfl ?_
      refine jv_aaloadv (v := 18 + w) rfl rfl rfl ⟨by decide, by decide, by decide⟩ ⟨by omega, by omega⟩ (by rw [fμ21 9 (by omega), hf 9 (by omega)]; exact hm0.2.2 w (by omega) (by omega)) ?_
      refine jv_geti rfl rfl (jz_com7 (by omega) (by omega)).1 ⟨by omega, rfl⟩ (by decide) ?_
      refine jv_iadd rfl rfl ⟨by omega, by omega⟩ ?_
      refine jv_istore_n (fun x => [some (.inr (.inr 7)), some (.inl v), some (.inl x), some (.inl w)]) rfl rfl (fun _ => rfl) (fun x2_29 ex2_29 => ?_)
      refine jv_iinc (fun x => [some (.inr (.inr 7)), some (.inl v), some (.inl x2_29), some (.inl x)]) rfl rfl rfl ⟨by omega, by omega⟩ (fun _ => rfl) (fun x3_30 ex3_30 => ?_)
      refine jv_goto rfl rfl ?_
      refine ih x2_29 x3_30 μ21 (by omega) (by omega) (by omega) ?_ (fun z q => by rw [fμ21 z (by omega), hf z q]) ?_
      · rw [ex3_30, show (w + 1).toNat = w.toNat + 1 by omega]
        simp only [jsum]
        rw [show ((w.toNat : Nat) : Int) = w by omega, ex2_29, ← ey, vμ21]
        rfl
      · rw [ex3_30]
        exact jrel_rain hw ⟨y0, by omega⟩ (jg_mats (hf 8 (by omega)) (hf 9 (by omega)) hm0) hr fμ21 (by rw [eμ21, jm_uc_self])
set_option maxRecDepth 10000 in
theorem cl_rain {X : jm_X} {d : Nat} {Q : jv_P} {μ : jm_M} {t : Int → Int} {v : Int} (hHμ : jH μ t) (hv : 1 ≤ v ∧ v ≤ 20) (k : ∀ μ2, (∀ z, (z < 18 ∨ 23 < z) → μ2 z = μ z) → jh_rel μ2 7 (jt_rp t v (t 1)) → Q [.inl (jsum (jrs t v) (t 1).toNat)] μ2) : cV X (d + 1) 45 [.inr (.inr 7), .inl v] μ Q := by
  refine jv_enter (d := d + 0) jm_p_X4_rainOnAll [some (.inr (.inr 7)), some (.inl v), none, none] rfl rfl rfl (Nat.le_of_ble_eq_true rfl) rfl rfl ?_
  refine jv_iconst rfl rfl ?_
  refine jv_istore_nK (L2 := [some (.inr (.inr 7)), some (.inl v), some (.inl 0), none]) rfl rfl rfl ?_
  refine jv_iconst rfl rfl ?_
  refine jv_istore_nK (L2 := [some (.inr (.inr 7)), some (.inl v), some (.inl 0), some (.inl 0)]) rfl rfl rfl ?_
  exact cl_rain_l hHμ.1 hv hHμ.2.2.1 (jH_3 hHμ) k 9 0 0 μ (by omega) hHμ.1.2.1.1 (by have := hHμ.1.2.1.2; omega) rfl (fun _ _ => rfl) (by rw [jt_rp_0]; exact hHμ.2.2.2)
set_option maxRecDepth 10000 in
theorem mo_rain_l {X : jm_X} {d : Nat} {Q : jv_P} {t : Int → Int} {v : Int} {μ0 : jm_M} (hw : jt_wf t) (hv : 1 ≤ v ∧ v ≤ 20) (hU : jU μ0 t) (k : ∀ μ2, ja0 μ0 μ2 (jt_rp t v (t 1)) → Q [.inl (jsum (jrs t v) (t 1).toNat)] μ2) : ∀ (n : Nat) (y w : Int) (o4 : Option jm_V) (μ : jm_M), 0 ≤ w → w ≤ t 1 → t 1 - w < n → y = jsum (jrs t v) w.toNat → ja0 μ0 μ (jt_rp t v w) → jV X d jm_p_X10_rain Q 19 [some (.inr (.inr 94)), some (.inl v), some (.inl y), some (.inl w), o4] [] μ := by
  have w1 := hw.2.1
  intro n
  induction n with
  | zero => intro y w o4 μ y0 y1 yn ey ha; exfalso; omega
  | succ n ih =>
    intro y w o4 μ y0 y1 yn ey ha
    have f1 : μ 95 1 = t 1 := by rw [ha.2.2 1 (by decide) (by decide)]; exact jt_rp_o (by omega)
    have hr6 := jrs_r hw hv.1 w.toNat (by omega)
    have hso : w < t 1 → μ 95 (38 + w) = t (38 + w) ∧ 0 ≤ t (38 + w) ∧ t (38 + w) ≤ 60 := fun q => by
      rw [ha.2.2 (38 + w) (by omega) (by omega), jt_rp_o (by omega)]
      exact ⟨rfl, (hw.2.2.2.2.2.2.2 w y0 (by omega)).2.1⟩
    refine jv_iload_n rfl rfl rfl ?_
    refine jv_aload_n rfl rfl rfl (by decide) ?_
    refine jv_getr (w := 95) rfl rfl rfl ⟨by decide, rfl⟩ rfl rfl ?_
    refine jv_iconst rfl rfl ?_
    refine jv_iaload rfl rfl (by decide) rfl ⟨by omega, by omega⟩ ?_
    refine jv_icmp_ge rfl rfl rfl (fun c24 => ?_) (fun c24 => ?_)
    · refine jv_iload_n rfl rfl rfl ?_
      refine jv_ireturn rfl (Or.inl rfl) ?_
      have hx : w = t 1 := by omega
      rw [hx] at ha ey
      rw [ey]
      exact k _ ha
    · refine jv_aload_n rfl rfl rfl (by decide) ?_
      refine jv_getr (w := 95) rfl rfl rfl ⟨by decide, rfl⟩ rfl rfl ?_
      refine jv_bipush rfl rfl ?_
      refine jv_iload_n rfl rfl rfl ?_
      refine jv_iadd rfl rfl ⟨by omega, by omega⟩ ?_
      refine jv_iaload rfl rfl (by decide) rfl ⟨by omega, by omega⟩ ?_
      refine jv_iload_n rfl rfl rfl ?_
      refine jv_iadd rfl rfl ⟨by omega, by omega⟩ ?_
      refine jv_istore (fun x => [some (.inr (.inr 94)), some (.inl v), some (.inl y), some (.inl w), some (.inl x)]) rfl rfl (fun _ => rfl) (fun x4_33 ex4_33 => ?_)
      refine jv_aload_n rfl rfl rfl (by decide) ?_
      refine jv_getr (w := 95) rfl rfl rfl ⟨by decide, rfl⟩ rfl rfl ?_
      refine jv_bipush rfl rfl ?_
      refine jv_iload_n rfl rfl rfl ?_
      refine jv_iadd rfl rfl ⟨by omega, by omega⟩ ?_
      refine jv_iload rfl rfl rfl ?_
      refine jv_bipush rfl rfl ?_
      refine jv_icmp_le rfl rfl rfl (fun c41 => ?_) (fun c41 => ?_)
      · refine jv_iload rfl rfl rfl ?_
        refine jv_iastore rfl rfl rfl (by decide) ⟨by omega, by omega⟩ (fun μ45 eμ45 => ?_)
        have hs1 := hso (by omega)
        have hv4 : x4_33 = min 60 (t (38 + w) + v) := by omega
        rw [hv4] at eμ45
        have vμ45 : μ45 95 (38 + w) = min 60 (t (38 + w) + v) := by rw [eμ45, jm_uc_self]; exact if_pos rfl
        refine jv_iload_n rfl rfl rfl ?_
        refine jv_aload_n rfl rfl rfl (by decide) ?_
        refine jv_getr (w := 95) rfl rfl rfl ⟨by decide, rfl⟩ rfl rfl ?_
        refine jv_bipush rfl rfl ?_
        refine jv_iload_n rfl rfl rfl ?_
        refine jv_iadd rfl rfl ⟨by omega, by omega⟩ ?_
        refine jv_iaload rfl rfl (by decide) rfl ⟨by omega, by omega⟩ ?_
        refine jv_iadd rfl rfl ⟨by omega, by omega⟩ ?_
        refine jv_istore_n (fun x => [some (.inr (.inr 94)), some (.inl v), some (.inl x), some (.inl w), some (.inl x4_33)]) rfl rfl (fun _ => rfl) (fun x2_54 ex2_54 => ?_)
        refine jv_iinc (fun x => [some (.inr (.inr 94)), some (.inl v), some (.inl x2_54), some (.inl x), some (.inl x4_33)]) rfl rfl rfl ⟨by omega, by omega⟩ (fun _ => rfl) (fun x3_55 ex3_55 => ?_)
        refine jv_goto rfl rfl ?_
        refine ih x2_54 x3_55 _ μ45 (by omega) (by omega) (by omega) ?_ ⟨fun z q => by rw [eμ45, jm_off1 q, ha.1 z q], fun j q => ?_, fun j j0 j1 => ?_⟩
        · rw [ex3_55, show (w + 1).toNat = w.toNat + 1 by omega]
          simp only [jsum]
          rw [show ((w.toNat : Nat) : Int) = w by omega, ex2_54, ← ey, vμ45]
          rfl
        · rw [eμ45, jm_uc_self]
          unfold jm_u1
          rw [if_neg (by omega)]
          exact ha.2.1 j q
        · rw [eμ45, jm_uc_self, ex3_55]
          unfold jm_u1
          by_cases hj : j = 38 + w
          · rw [if_pos hj, hj]
            unfold jt_rp
            rw [if_pos (by omega)]
          · rw [if_neg hj, ha.2.2 j j0 j1]
            unfold jt_rp
            by_cases q : 38 ≤ j ∧ j < 38 + w
            · rw [if_pos q, if_pos (by omega)]
            · rw [if_neg q, if_neg (by omega)]
      · refine jv_bipush rfl rfl ?_
        refine jv_goto rfl rfl ?_
        refine jv_iastore rfl rfl rfl (by decide) ⟨by omega, by omega⟩ (fun μ45_1 eμ45_1 => ?_)
        have hs1 := hso (by omega)
        have hv4 : 60 = min 60 (t (38 + w) + v) := by omega
        rw [hv4] at eμ45_1
        have vμ45_1 : μ45_1 95 (38 + w) = min 60 (t (38 + w) + v) := by rw [eμ45_1, jm_uc_self]; exact if_pos rfl
        refine jv_iload_n rfl rfl rfl ?_
        refine jv_aload_n rfl rfl rfl (by decide) ?_
        refine jv_getr (w := 95) rfl rfl rfl ⟨by decide, rfl⟩ rfl rfl ?_
        refine jv_bipush rfl rfl ?_
        refine jv_iload_n rfl rfl rfl ?_
        refine jv_iadd rfl rfl ⟨by omega, by omega⟩ ?_
        refine jv_iaload rfl rfl (by decide) rfl ⟨by omega, by omega⟩ ?_
        refine jv_iadd rfl rfl ⟨by omega, by omega⟩ ?_
        refine jv_istore_n (fun x => [some (.inr (.inr 94)), some (.inl v), some (.inl x), some (.inl w), some (.inl x4_33)]) rfl rfl (fun _ => rfl) (fun x2_54_1 ex2_54_1 => ?_)
        refine jv_iinc (fun x => [some (.inr (.inr 94)), some (.inl v), some (.inl x2_54_1), some (.inl x), some (.inl x4_33)]) rfl rfl rfl ⟨by omega, by omega⟩ (fun _ => rfl) (fun x3_55_1 ex3_55_1 => ?_)
        refine jv_goto rfl rfl ?_
        refine ih x2_54_1 x3_55_1 _ μ45_1 (by omega) (by omega) (by omega) ?_ ⟨fun z q => by rw [eμ45_1, jm_off1 q, ha.1 z q], fun j q => ?_, fun j j0 j1 => ?_⟩
        · rw [ex3_55_1, show (w + 1).toNat = w.toNat + 1 by omega]
          simp only [jsum]
          rw [show ((w.toNat : Nat) : Int) = w by omega, ex2_54_1, ← ey, vμ45_1]
          rfl
        · rw [eμ45_1, jm_uc_self]
          unfold jm_u1
          rw [if_neg (by omega)]
          exact ha.2.1 j q
        · rw [eμ45_1, jm_uc_self, ex3_55_1]
          unfold jm_u1
          by_cases hj : j = 38 + w
          · rw [if_pos hj, hj]
            unfold jt_rp
            rw [if_pos (by omega)]
          · rw [if_neg hj, ha.2.2 j j0 j1]
            unfold jt_rp
            by_cases q : 38 ≤ j ∧ j < 38 + w
            · rw [if_pos q, if_pos (by omega)]
            · rw [if_neg q, if_neg (by omega)]
set_option maxRecDepth 10000 in
set_option maxHeartbeats 1000000 in
theorem pr_rain {X : jm_X} {v : Int} (r_v : jm_r v) : jp X 98 176 [.inl v] := by
  intro μ hI
  obtain ⟨⟨hit, hlan⟩, ⟨ht0, ht1, ht2⟩, ⟨hr0, hr1, hr2⟩, ⟨hst, hfa⟩, htown, hidle, himg, hpast⟩ := id hI
  obtain ⟨hwf, hcf, hkd, hmat, hrel, hh01, hhot, hnc⟩ := id htown
  obtain ⟨⟨r0, r1, r2, r3⟩, rm, rz, rc⟩ := id hrel
  obtain ⟨w0, w1, w2, w3, w4, w6, w7, w8⟩ := id hwf
  have hHμ := jH_of hI
  obtain ⟨hp0, hp1, hp2, -⟩ := id hpast
  have hcf5 : jt_cf (μ 95) 100000 := fun c a b => by have q := hcf c a b; omega
  refine jv_enter (d := 199) jm_p_X9_rain [some (.inr (.inr 0)), some (.inl v)] rfl rfl rfl (Nat.le_of_ble_eq_true rfl) rfl rfl ?_
  refine jv_aload_n rfl rfl rfl (by decide) ?_
  refine jv_callV0 rfl rfl rfl rfl ⟨by decide, rfl⟩ (Nat.le_of_ble_eq_true rfl) (cl_noHotel (fun b1 => ?_) (fun b1 => ?_))
  · show jV _ _ jm_p_X9_rain _ 2 [some (.inr (.inr 0)), some (.inl v)] [.inl 1] μ
    refine jv_if_eqF rfl rfl (by decide) ?_
    refine jv_ldc rfl rfl ?_
    refine jv_ireturn rfl (Or.inl rfl) ?_
    refine ⟨_, rfl, ?_⟩
    skip
    refine jv_enter (d := 199) jm_p_X10_rain [some (.inr (.inr 94)), some (.inl v), none, none, none] rfl rfl rfl (Nat.le_of_ble_eq_true rfl) rfl rfl ?_
    refine jv_aload_n rfl rfl rfl (by decide) ?_
    refine jv_geti rfl rfl rfl ⟨by decide, rfl⟩ (by decide) ?_
    refine jv_if_ne rfl rfl rfl (fun c2 => ?_) (fun c2 => ?_)
    · first
      | (exfalso; omega)
      | skip
        refine jv_iload_n rfl rfl rfl ?_
        refine jv_i2l rfl rfl ?_
        refine jv_lconst rfl rfl ?_
        refine jv_ldc2_w rfl rfl ?_
        refine jv_callS3 rfl rfl rfl (Nat.le_of_ble_eq_true rfl) (mo_in (fun b9 => ?_) (fun b9 => ?_))
        · first
          | (exfalso; omega)
          | skip
            show jV _ _ jm_p_X10_rain _ 10 [some (.inr (.inr 94)), some (.inl v), none, none, none] [.inl 1] μ
            refine jv_if_neT rfl rfl (by decide) ?_
            refine jv_aload_n rfl rfl rfl (by decide) ?_
            refine jv_callV0 rfl rfl rfl rfl ⟨by decide, rfl⟩ (Nat.le_of_ble_eq_true rfl) (mo_keepPast (by omega) (fun ν14 kν14 tν14 => ?_))
            show jV _ _ jm_p_X10_rain _ 15 [some (.inr (.inr 94)), some (.inl v), none, none, none] [] ν14
            have hUν14 : jU ν14 (μ 95) := fun j j0 j1 => by rw [tν14 j j0 j1, g95]
            have v0ν14 : ν14 95 0 = μ 95 0 := hUν14 0 (by decide) (by decide)
            have v1ν14 : ν14 95 1 = μ 95 1 := hUν14 1 (by decide) (by decide)
            refine jv_iconst rfl rfl ?_
            refine jv_istore_nK (L2 := [some (.inr (.inr 94)), some (.inl v), some (.inl 0), none, none]) rfl rfl rfl ?_
            refine jv_iconst rfl rfl ?_
            refine jv_istore_nK (L2 := [some (.inr (.inr 94)), some (.inl v), some (.inl 0), some (.inl 0), none]) rfl rfl rfl ?_
            exfalso; omega
        · first
          | (exfalso; omega)
          | skip
            show jV _ _ jm_p_X10_rain _ 10 [some (.inr (.inr 94)), some (.inl v), none, none, none] [.inl 0] μ
            refine jv_if_neF rfl rfl (by decide) ?_
            refine jv_ldc rfl rfl ?_
            refine jv_ireturn rfl (Or.inl rfl) ?_
            exact ⟨jv_one (by omega), hI⟩
    · first
      | (exfalso; omega)
      | skip
        refine jv_ldc rfl rfl ?_
        refine jv_ireturn rfl (Or.inl rfl) ?_
        exact ⟨jv_one (by omega), hI⟩
  · show jV _ _ jm_p_X9_rain _ 2 [some (.inr (.inr 0)), some (.inl v)] [.inl 0] μ
    refine jv_if_eqT rfl rfl (by decide) ?_
    refine jv_iload_n rfl rfl rfl ?_
    refine jv_iconst rfl rfl ?_
    refine jv_icmp_lt rfl rfl rfl (fun c7 => ?_) (fun c7 => ?_)
    · refine jv_ldc rfl rfl ?_
      refine jv_ireturn rfl (Or.inl rfl) ?_
      refine ⟨_, rfl, ?_⟩
      skip
      refine jv_enter (d := 199) jm_p_X10_rain [some (.inr (.inr 94)), some (.inl v), none, none, none] rfl rfl rfl (Nat.le_of_ble_eq_true rfl) rfl rfl ?_
      refine jv_aload_n rfl rfl rfl (by decide) ?_
      refine jv_geti rfl rfl rfl ⟨by decide, rfl⟩ (by decide) ?_
      refine jv_if_ne rfl rfl rfl (fun c2 => ?_) (fun c2 => ?_)
      · first
        | (exfalso; omega)
        | skip
          refine jv_iload_n rfl rfl rfl ?_
          refine jv_i2l rfl rfl ?_
          refine jv_lconst rfl rfl ?_
          refine jv_ldc2_w rfl rfl ?_
          refine jv_callS3 rfl rfl rfl (Nat.le_of_ble_eq_true rfl) (mo_in (fun b9 => ?_) (fun b9 => ?_))
          · first
            | (exfalso; omega)
            | skip
              show jV _ _ jm_p_X10_rain _ 10 [some (.inr (.inr 94)), some (.inl v), none, none, none] [.inl 1] μ
              refine jv_if_neT rfl rfl (by decide) ?_
              refine jv_aload_n rfl rfl rfl (by decide) ?_
              refine jv_callV0 rfl rfl rfl rfl ⟨by decide, rfl⟩ (Nat.le_of_ble_eq_true rfl) (mo_keepPast (by omega) (fun ν14 kν14 tν14 => ?_))
              show jV _ _ jm_p_X10_rain _ 15 [some (.inr (.inr 94)), some (.inl v), none, none, none] [] ν14
              have hUν14 : jU ν14 (μ 95) := fun j j0 j1 => by rw [tν14 j j0 j1, g95]
              have v0ν14 : ν14 95 0 = μ 95 0 := hUν14 0 (by decide) (by decide)
              have v1ν14 : ν14 95 1 = μ 95 1 := hUν14 1 (by decide) (by decide)
              refine jv_iconst rfl rfl ?_
              refine jv_istore_nK (L2 := [some (.inr (.inr 94)), some (.inl v), some (.inl 0), none, none]) rfl rfl rfl ?_
              refine jv_iconst rfl rfl ?_
              refine jv_istore_nK (L2 := [some (.inr (.inr 94)), some (.inl v), some (.inl 0), some (.inl 0), none]) rfl rfl rfl ?_
              exfalso; omega
          · first
            | (exfalso; omega)
            | skip
              show jV _ _ jm_p_X10_rain _ 10 [some (.inr (.inr 94)), some (.inl v), none, none, none] [.inl 0] μ
              refine jv_if_neF rfl rfl (by decide) ?_
              refine jv_ldc rfl rfl ?_
              refine jv_ireturn rfl (Or.inl rfl) ?_
              exact ⟨jv_one (by omega), hI⟩
      · first
        | (exfalso; omega)
        | skip
          refine jv_ldc rfl rfl ?_
          refine jv_ireturn rfl (Or.inl rfl) ?_
          exact ⟨jv_one (by omega), hI⟩
    · refine jv_iload_n rfl rfl rfl ?_
      refine jv_bipush rfl rfl ?_
      refine jv_icmp_le rfl rfl rfl (fun c10 => ?_) (fun c10 => ?_)
      · refine jv_aload_n rfl rfl rfl (by decide) ?_
        refine jv_getr (w := 43) rfl rfl rfl ⟨by decide, rfl⟩ rfl rfl ?_
        refine jv_aload_n rfl rfl rfl (by decide) ?_
        refine jv_getr (w := 7) rfl rfl rfl ⟨by decide, rfl⟩ rfl rfl ?_
        refine jv_callV1 rfl rfl rfl rfl ⟨by decide, rfl⟩ (Nat.le_of_ble_eq_true rfl) (cl_keep hHμ hp2 (by omega) (fun μ17 kμ17 => ?_))
        show jV _ _ jm_p_X9_rain _ 18 [some (.inr (.inr 0)), some (.inl v)] [] μ17
        have hHμ17 := jH_kk hHμ kμ17
        have n3μ17 := jH_3 hHμ17
        have n2μ17 := jH_2 hHμ17
        refine jv_aload_n rfl rfl rfl (by decide) ?_
        refine jv_getr (w := 7) rfl rfl rfl ⟨by decide, rfl⟩ rfl rfl ?_
        refine jv_iload_n rfl rfl rfl ?_
        refine jv_callV1 rfl rfl rfl rfl ⟨by decide, rfl⟩ (Nat.le_of_ble_eq_true rfl) (cl_rain hHμ17 (by omega) (fun μ21 fμ21 rμ21 => ?_))
        show jV _ _ jm_p_X9_rain _ 22 [some (.inr (.inr 0)), some (.inl v)] [.inl (jsum (jrs (μ 95) v) (μ 95 1).toNat)] μ21
        refine jv_ireturn rfl (Or.inl rfl) ?_
        refine ⟨_, rfl, ?_⟩
        have g95 : μ21 95 = μ 95 := by rw [fμ21 95 (by omega), kμ17.1 95 (by decide) (by decide)]
        have g00 : μ21 95 0 = μ 95 0 := by rw [g95]
        have g01 : μ21 95 1 = μ 95 1 := by rw [g95]
        have g94 : μ21 94 = μ 94 := by rw [fμ21 94 (by omega), kμ17.1 94 (by decide) (by decide)]
        have g942 : μ21 94 2 = μ 94 2 := by rw [g94]
        have g941 : μ21 94 1 = μ 94 1 := by rw [g94]
        refine jv_enter (d := 199) jm_p_X10_rain [some (.inr (.inr 94)), some (.inl v), none, none, none] rfl rfl rfl (Nat.le_of_ble_eq_true rfl) rfl rfl ?_
        refine jv_aload_n rfl rfl rfl (by decide) ?_
        refine jv_geti rfl rfl rfl ⟨by decide, rfl⟩ (by decide) ?_
        refine jv_if_ne rfl rfl rfl (fun c2 => ?_) (fun c2 => ?_)
        · first
          | (exfalso; omega)
          | skip
            refine jv_iload_n rfl rfl rfl ?_
            refine jv_i2l rfl rfl ?_
            refine jv_lconst rfl rfl ?_
            refine jv_ldc2_w rfl rfl ?_
            refine jv_callS3 rfl rfl rfl (Nat.le_of_ble_eq_true rfl) (mo_in (fun b9 => ?_) (fun b9 => ?_))
            · first
              | (exfalso; omega)
              | skip
                show jV _ _ jm_p_X10_rain _ 10 [some (.inr (.inr 94)), some (.inl v), none, none, none] [.inl 1] μ21
                refine jv_if_neT rfl rfl (by decide) ?_
                refine jv_aload_n rfl rfl rfl (by decide) ?_
                refine jv_callV0 rfl rfl rfl rfl ⟨by decide, rfl⟩ (Nat.le_of_ble_eq_true rfl) (mo_keepPast (by omega) (fun ν14 kν14 tν14 => ?_))
                show jV _ _ jm_p_X10_rain _ 15 [some (.inr (.inr 94)), some (.inl v), none, none, none] [] ν14
                have hUν14 : jU ν14 (μ 95) := fun j j0 j1 => by rw [tν14 j j0 j1, g95]
                have v0ν14 : ν14 95 0 = μ 95 0 := hUν14 0 (by decide) (by decide)
                have v1ν14 : ν14 95 1 = μ 95 1 := hUν14 1 (by decide) (by decide)
                refine jv_iconst rfl rfl ?_
                refine jv_istore_nK (L2 := [some (.inr (.inr 94)), some (.inl v), some (.inl 0), none, none]) rfl rfl rfl ?_
                refine jv_iconst rfl rfl ?_
                refine jv_istore_nK (L2 := [some (.inr (.inr 94)), some (.inl v), some (.inl 0), some (.inl 0), none]) rfl rfl rfl ?_
                refine mo_rain_l hwf (by omega) hUν14 (fun μz az => ?_) 9 0 0 _ ν14 (by omega) w1.1 (by omega) rfl ⟨fun _ _ => rfl, fun _ _ => rfl, fun j j0 j1 => by rw [jt_rp_0]; exact hUν14 j j0 j1⟩
                exact ⟨jv_one (by omega), jI_act2 hI kμ17 (fun z q => fμ21 z (by omega)) (jkm_act kν14 (by omega) az) az.2.2 (jg_mats (fμ21 8 (by omega)) (fμ21 9 (by omega)) hHμ17.2.2.1) rμ21 (jt_rp_wf (by omega) w1.2 hwf) (jt_cf_rp w1.2 hcf) (jt_same_rp w1.2 w1.2)⟩
            · first
              | (exfalso; omega)
              | skip
                show jV _ _ jm_p_X10_rain _ 10 [some (.inr (.inr 94)), some (.inl v), none, none, none] [.inl 0] μ21
                refine jv_if_neF rfl rfl (by decide) ?_
                refine jv_ldc rfl rfl ?_
                refine jv_ireturn rfl (Or.inl rfl) ?_
                exfalso; omega
        · first
          | (exfalso; omega)
          | skip
            refine jv_ldc rfl rfl ?_
            refine jv_ireturn rfl (Or.inl rfl) ?_
            exfalso; omega
      · refine jv_ldc rfl rfl ?_
        refine jv_ireturn rfl (Or.inl rfl) ?_
        refine ⟨_, rfl, ?_⟩
        skip
        refine jv_enter (d := 199) jm_p_X10_rain [some (.inr (.inr 94)), some (.inl v), none, none, none] rfl rfl rfl (Nat.le_of_ble_eq_true rfl) rfl rfl ?_
        refine jv_aload_n rfl rfl rfl (by decide) ?_
        refine jv_geti rfl rfl rfl ⟨by decide, rfl⟩ (by decide) ?_
        refine jv_if_ne rfl rfl rfl (fun c2 => ?_) (fun c2 => ?_)
        · first
          | (exfalso; omega)
          | skip
            refine jv_iload_n rfl rfl rfl ?_
            refine jv_i2l rfl rfl ?_
            refine jv_lconst rfl rfl ?_
            refine jv_ldc2_w rfl rfl ?_
            refine jv_callS3 rfl rfl rfl (Nat.le_of_ble_eq_true rfl) (mo_in (fun b9 => ?_) (fun b9 => ?_))
            · first
              | (exfalso; omega)
              | skip
                show jV _ _ jm_p_X10_rain _ 10 [some (.inr (.inr 94)), some (.inl v), none, none, none] [.inl 1] μ
                refine jv_if_neT rfl rfl (by decide) ?_
                refine jv_aload_n rfl rfl rfl (by decide) ?_
                refine jv_callV0 rfl rfl rfl rfl ⟨by decide, rfl⟩ (Nat.le_of_ble_eq_true rfl) (mo_keepPast (by omega) (fun ν14 kν14 tν14 => ?_))
                show jV _ _ jm_p_X10_rain _ 15 [some (.inr (.inr 94)), some (.inl v), none, none, none] [] ν14
                have hUν14 : jU ν14 (μ 95) := fun j j0 j1 => by rw [tν14 j j0 j1, g95]
                have v0ν14 : ν14 95 0 = μ 95 0 := hUν14 0 (by decide) (by decide)
                have v1ν14 : ν14 95 1 = μ 95 1 := hUν14 1 (by decide) (by decide)
                refine jv_iconst rfl rfl ?_
                refine jv_istore_nK (L2 := [some (.inr (.inr 94)), some (.inl v), some (.inl 0), none, none]) rfl rfl rfl ?_
                refine jv_iconst rfl rfl ?_
                refine jv_istore_nK (L2 := [some (.inr (.inr 94)), some (.inl v), some (.inl 0), some (.inl 0), none]) rfl rfl rfl ?_
                exfalso; omega
            · first
              | (exfalso; omega)
              | skip
                show jV _ _ jm_p_X10_rain _ 10 [some (.inr (.inr 94)), some (.inl v), none, none, none] [.inl 0] μ
                refine jv_if_neF rfl rfl (by decide) ?_
                refine jv_ldc rfl rfl ?_
                refine jv_ireturn rfl (Or.inl rfl) ?_
                exact ⟨jv_one (by omega), hI⟩
        · first
          | (exfalso; omega)
          | skip
            refine jv_ldc rfl rfl ?_
            refine jv_ireturn rfl (Or.inl rfl) ?_
            exact ⟨jv_one (by omega), hI⟩
theorem jI_undo {μ μ1 ν : jm_M} (h : jI μ) (hu : 0 < μ 94 2) (hb : jtb μ μ1 (40 * ((μ 43 1 + 24 - 1) % 24))) (m1 : ∀ z, z ≠ 94 → z ≠ 95 → ν z = μ1 z) (m2 : ∀ j, j ≠ 2 → ν 94 j = μ 94 j) (m3 : ν 94 2 = μ 94 2 - 1) (m4 : ∀ j, 62 ≤ j → ν 95 j = μ 95 j) (m5 : ∀ j, 0 ≤ j → j < 62 → ν 95 j = μ 95 (62 + 62 * (μ 94 2 - 1) + j)) : jI ν := by
  obtain ⟨a, b, c, d, f, g, ⟨i0, i1⟩, j⟩ := h
  obtain ⟨b1, b2, b3, b4, b5, b6⟩ := hb
  obtain ⟨f1, f2, f3, f4, f5, f6, f7, f8⟩ := f
  obtain ⟨q0, q1, q2, q3⟩ := j
  obtain ⟨p1, p2, p3, p4⟩ := q3 (μ 94 2 - 1) (by omega) (by omega)
  rw [show (μ 43 1 + 24 - μ 94 2 + (μ 94 2 - 1)) % 24 = (μ 43 1 + 24 - 1) % 24 by omega] at p4
  have E : ∀ z, ((z < 10 ∨ 23 < z) ∧ z ≠ 43 ∧ z ≠ 94 ∧ z ≠ 95) → ν z = μ z := fun z q => by rw [m1 z q.2.2.1 q.2.2.2, b1 z q.1 q.2.1]
  have hT : ∀ j, 0 ≤ j → j < 62 → ν 95 j = (fun j => μ 95 (62 + 62 * (μ 94 2 - 1) + j)) j := m5
  have hT' : ∀ j, 0 ≤ j → j < 62 → (fun j => μ 95 (62 + 62 * (μ 94 2 - 1) + j)) j = ν 95 j := fun j p q => (m5 j p q).symm
  generalize hp : (fun j => μ 95 (62 + 62 * (μ 94 2 - 1) + j)) = p at *
  obtain ⟨s0, s1, s2, s3, s4⟩ := id p3
  have t0 := hT 0 (by decide) (by decide)
  have t1 := hT 1 (by decide) (by decide)
  have w0 := p1.1
  have w1 := p1.2.1
  have e7 : ν 7 = μ 7 := E 7 (by decide)
  have e8 : ν 8 = μ 8 := E 8 (by decide)
  have dm : ∀ m, 0 ≤ m → m < 4 → μ 8 m = 7 + 3 ∨ μ 8 m = 7 + 5 ∨ μ 8 m = 7 + 7 ∨ μ 8 m = 7 + 9 := f4.1
  have kd : jt_kd p := fun x x0 x1 => by
    have q := s4 x x0 (by omega)
    have r := f3 x x0 (by omega)
    omega
  obtain ⟨c1, c2, c3⟩ := p4
  obtain ⟨⟨r0, r1, r2, r3⟩, rm, rz, rc⟩ := f5
  have rc' : ∀ x, 0 ≤ x → x < μ 95 1 → μ (18 + x) 0 = μ 95 (32 + x) ∧ μ (18 + x) 1 = μ 95 (38 + x) ∧ μ (18 + x) 2 = μ 95 (44 + x) ∧ μ (18 + x) 3 = μ 95 (50 + x) ∧ μ (18 + x) 4 = μ 95 (56 + x) := rc
  have hr : jh_rel ν 7 p := by
    refine ⟨⟨by rw [e7]; omega, by rw [e7]; omega, by rw [e7]; omega, by rw [e7]; omega⟩, fun m m0 mm => ?_, fun m m0 mm k k0 k1 => ?_, fun x x0 x1 => ?_⟩
    · show ν (ν 8 m) 0 = _ ∧ ∀ k, 0 ≤ k → k < 6 → ν (ν 8 m + 1) k = _
      have da := dm m m0 (by omega)
      have q := b4 m m0 (by omega)
      have q2 := c1 m m0 mm
      rw [e8, m1 (μ 8 m) (by omega) (by omega), m1 (μ 8 m + 1) (by omega) (by omega), q.1]
      refine ⟨q2.1, fun k k0 k1 => ?_⟩
      rw [q.2 k k0 k1]
      exact q2.2 k k0 k1
    · show ν (ν 8 m + 1) k = 0
      have da := dm m (by omega) mm
      rw [e8, m1 (μ 8 m + 1) (by omega) (by omega), (b4 m (by omega) mm).2 k k0 k1]
      exact c2 m m0 mm k k0 k1
    · show ν (18 + x) 0 = _ ∧ ν (18 + x) 1 = _ ∧ ν (18 + x) 2 = _ ∧ ν (18 + x) 3 = _ ∧ ν (18 + x) 4 = _
      have q := b6 x x0 (by omega)
      have q2 := b5 x x0 (by omega)
      have q3 := c3 x x0 x1
      have q4 := s4 x x0 (by omega)
      have q5 := rc' x x0 (by omega)
      rw [m1 (18 + x) (by omega) (by omega)]
      omega
  have hmν : jh_mats ν 7 := jg_mats e8 (E 9 (by decide)) f4
  have n1 := m2 1 (by decide)
  refine ⟨jg_rows (E _ (by decide)) (E _ (by decide)) (E _ (by decide)) (E _ (by decide)) (E _ (by decide)) (E _ (by decide)) a, jg_tape (by rw [E 5 (by decide)]) (E _ (by decide)) (E _ (by decide)) (m2 8 (by decide)) b, jg_trace (E _ (by decide)) (E _ (by decide)) (E _ (by decide)) (m2 12 (by decide)) c, ⟨by rw [E 0 (by decide), m2 10 (by decide)]; exact d.1, by rw [E 0 (by decide), m2 9 (by decide)]; exact d.2⟩, ⟨jt_wf_congr hT' p1, jt_cf_congr hT' p2, jt_kd_congr hT' p1.2.1.2 kd, hmν, jg_rel hmν (fun _ _ _ => rfl) hT p1.1 p1.2.1 hr, by rw [n1]; exact f6, by rw [n1, t0, s0]; exact f7, by rw [t0, t1, s0, s1]; exact f8⟩,
    jg_idle (E _ (by decide)) (E _ (by decide)) (E _ (by decide)) (E _ (by decide)) (E _ (by decide)) (E _ (by decide)) (E _ (by decide)) g,
    ⟨jg_img n1 (Or.inl rfl) g (by rw [E 42 (by decide)]) (by rw [E 96 (by decide)]) (fun z z0 z1 => E z (by omega)) (fun k k0 k1 => m4 _ (by omega)) i0, jg_img n1 (Or.inr rfl) g (by rw [E 42 (by decide)]) (by rw [E 96 (by decide)]) (fun z z0 z1 => E z (by omega)) (fun k k0 k1 => m4 _ (by omega)) i1⟩, ?_⟩
  have e43 : ν 43 = μ1 43 := m1 43 (by decide) (by decide)
  have e44 : ν 44 = μ 44 := E 44 (by decide)
  have x1 : ν 43 1 = (μ 43 1 + 24 - 1) % 24 := by rw [e43]; exact b2
  have x2 : ν 43 2 = μ 43 2 - 1 := by rw [e43]; exact b3
  refine ⟨by omega, by omega, by omega, fun k k0 k1 => ?_⟩
  obtain ⟨r1', r2', r3', r4'⟩ := q3 k k0 (by omega)
  have hq : ∀ j, 0 ≤ j → j < 62 → (fun j => μ 95 (62 + 62 * k + j)) j = (fun j => ν 95 (62 + 62 * k + j)) j := fun j j0 j1 => (m4 _ (by omega)).symm
  refine ⟨jt_wf_congr hq r1', jt_cf_congr hq r2', jt_same_congr hT' hq p1.2.1.2 (jt_same_tr p3 r3'), ?_⟩
  rw [e44, show (ν 43 1 + 24 - ν 94 2 + k) % 24 = (μ 43 1 + 24 - μ 94 2 + k) % 24 by omega]
  exact jg_cell_congr hq r1'.1.2 r1'.2.1.2 r4'
set_option maxRecDepth 10000 in
theorem cl_isEmpty {X : jm_X} {d : Nat} {Q : jv_P} {μ : jm_M}  (k1 : μ 43 2 = 0 → Q [.inl 1] μ) (k0 : ¬ μ 43 2 = 0 → Q [.inl 0] μ) : cV X (d + 1) 32 [.inr (.inr 43)] μ Q := by
  refine jv_enter (d := d + 0) jm_p_X3_isEmpty [some (.inr (.inr 43))] rfl rfl rfl (Nat.le_of_ble_eq_true rfl) rfl rfl ?_
  refine jv_aload_n rfl rfl rfl (by decide) ?_
  refine jv_geti rfl rfl rfl ⟨by decide, rfl⟩ (by decide) ?_
  refine jv_if_ne rfl rfl rfl (fun c2 => ?_) (fun c2 => ?_)
  · refine jv_iconst rfl rfl ?_
    refine jv_ireturn rfl (Or.inr ⟨rfl, by decide⟩) ?_
    exact k0 (by omega)
  · refine jv_iconst rfl rfl ?_
    refine jv_goto rfl rfl ?_
    refine jv_ireturn rfl (Or.inr ⟨rfl, by decide⟩) ?_
    exact k1 (by omega)
set_option maxRecDepth 10000 in
set_option maxHeartbeats 1000000 in
theorem pr_undo {X : jm_X}   : jp X 99 163 [] := by
  intro μ hI
  obtain ⟨⟨hit, hlan⟩, ⟨ht0, ht1, ht2⟩, ⟨hr0, hr1, hr2⟩, ⟨hst, hfa⟩, htown, hidle, himg, hpast⟩ := id hI
  obtain ⟨hwf, hcf, hkd, hmat, hrel, hh01, hhot, hnc⟩ := id htown
  obtain ⟨⟨r0, r1, r2, r3⟩, rm, rz, rc⟩ := id hrel
  obtain ⟨w0, w1, w2, w3, w4, w6, w7, w8⟩ := id hwf
  have hHμ := jH_of hI
  obtain ⟨hp0, hp1, hp2, -⟩ := id hpast
  have hcf5 : jt_cf (μ 95) 100000 := fun c a b => by have q := hcf c a b; omega
  refine jv_enter (d := 199) jm_p_X9_undo [some (.inr (.inr 0))] rfl rfl rfl (Nat.le_of_ble_eq_true rfl) rfl rfl ?_
  refine jv_aload_n rfl rfl rfl (by decide) ?_
  refine jv_getr (w := 43) rfl rfl rfl ⟨by decide, rfl⟩ rfl rfl ?_
  refine jv_callV0 rfl rfl rfl rfl ⟨by decide, rfl⟩ (Nat.le_of_ble_eq_true rfl) (cl_isEmpty (fun b2 => ?_) (fun b2 => ?_))
  · show jV _ _ jm_p_X9_undo _ 3 [some (.inr (.inr 0))] [.inl 1] μ
    refine jv_if_eqF rfl rfl (by decide) ?_
    refine jv_ldc rfl rfl ?_
    refine jv_ireturn rfl (Or.inl rfl) ?_
    refine ⟨_, rfl, ?_⟩
    skip
    refine jv_enter (d := 199) jm_p_X10_undo [some (.inr (.inr 94))] rfl rfl rfl (Nat.le_of_ble_eq_true rfl) rfl rfl ?_
    refine jv_aload_n rfl rfl rfl (by decide) ?_
    refine jv_geti rfl rfl rfl ⟨by decide, rfl⟩ (by decide) ?_
    refine jv_if_ne rfl rfl rfl (fun c2 => ?_) (fun c2 => ?_)
    · first
      | (exfalso; omega)
      | skip
        refine jv_aload_n rfl rfl rfl (by decide) ?_
        refine jv_dupr rfl rfl ?_
        refine jv_geti rfl rfl rfl ⟨by decide, rfl⟩ (by decide) ?_
        refine jv_iconst rfl rfl ?_
        refine jv_isub rfl rfl ⟨by omega, by omega⟩ ?_
        refine jv_puti rfl rfl rfl ⟨by decide, rfl⟩ (Or.inl rfl) (fun ν10 eν10 => ?_)
        have u10 : ν10 94 2 = μ 94 2 - 1 := by rw [eν10, jm_uc_self]; first | exact congrArg (fun z => z - 1) g942 | (show μ 94 2 - 1 = _; rfl)
        refine jv_aload_n rfl rfl rfl (by decide) ?_
        refine jv_bipush rfl rfl ?_
        refine jv_bipush rfl rfl ?_
        refine jv_aload_n rfl rfl rfl (by decide) ?_
        refine jv_geti rfl rfl rfl ⟨by decide, rfl⟩ (by decide) ?_
        refine jv_imul rfl rfl ⟨by omega, by omega⟩ ?_
        refine jv_iadd rfl rfl ⟨by omega, by omega⟩ ?_
        refine jv_iconst rfl rfl ?_
        refine jv_callV2 rfl rfl rfl rfl ⟨by decide, rfl⟩ (Nat.le_of_ble_eq_true rfl) (mo_copyTown (by omega) (by omega) (by omega) ?_)
        generalize eν19 : jm_uc ν10 95 (jt_cp (ν10 95) (62 + (62 * (ν10 94 2))) 0 62) = ν19
        show jV _ _ jm_p_X10_undo _ 20 [some (.inr (.inr 94))] [] ν19
        have u20 : ν19 94 2 = μ 94 2 - 1 := by rw [← eν19, jm_off1 (by decide)]; exact u10
        refine jv_aload_n rfl rfl rfl (by decide) ?_
        refine jv_geti rfl rfl rfl ⟨by decide, rfl⟩ (by decide) ?_
        refine jv_ireturn rfl (Or.inl rfl) ?_
        exfalso; omega
    · first
      | (exfalso; omega)
      | skip
        refine jv_ldc rfl rfl ?_
        refine jv_ireturn rfl (Or.inl rfl) ?_
        exact ⟨jv_one (by omega), hI⟩
  · show jV _ _ jm_p_X9_undo _ 3 [some (.inr (.inr 0))] [.inl 0] μ
    refine jv_if_eqT rfl rfl (by decide) ?_
    refine jv_aload_n rfl rfl rfl (by decide) ?_
    refine jv_getr (w := 43) rfl rfl rfl ⟨by decide, rfl⟩ rfl rfl ?_
    refine jv_aload_n rfl rfl rfl (by decide) ?_
    refine jv_getr (w := 7) rfl rfl rfl ⟨by decide, rfl⟩ rfl rfl ?_
    refine jv_callV1 rfl rfl rfl rfl ⟨by decide, rfl⟩ (Nat.le_of_ble_eq_true rfl) (cl_takeBack hmat hp2 (by omega) (fun μ10 hμ10 => ?_))
    show jV _ _ jm_p_X9_undo _ 11 [some (.inr (.inr 0))] [.inl (μ 43 2 - 1)] μ10
    refine jv_ireturn rfl (Or.inl rfl) ?_
    refine ⟨_, rfl, ?_⟩
    have g94 : μ10 94 = μ 94 := hμ10.1 94 (by omega) (by decide)
    have g942 : μ10 94 2 = μ 94 2 := by rw [g94]
    have g95 : μ10 95 = μ 95 := hμ10.1 95 (by omega) (by decide)
    refine jv_enter (d := 199) jm_p_X10_undo [some (.inr (.inr 94))] rfl rfl rfl (Nat.le_of_ble_eq_true rfl) rfl rfl ?_
    refine jv_aload_n rfl rfl rfl (by decide) ?_
    refine jv_geti rfl rfl rfl ⟨by decide, rfl⟩ (by decide) ?_
    refine jv_if_ne rfl rfl rfl (fun c2 => ?_) (fun c2 => ?_)
    · first
      | (exfalso; omega)
      | skip
        refine jv_aload_n rfl rfl rfl (by decide) ?_
        refine jv_dupr rfl rfl ?_
        refine jv_geti rfl rfl rfl ⟨by decide, rfl⟩ (by decide) ?_
        refine jv_iconst rfl rfl ?_
        refine jv_isub rfl rfl ⟨by omega, by omega⟩ ?_
        refine jv_puti rfl rfl rfl ⟨by decide, rfl⟩ (Or.inl rfl) (fun ν10 eν10 => ?_)
        have u10 : ν10 94 2 = μ 94 2 - 1 := by rw [eν10, jm_uc_self]; first | exact congrArg (fun z => z - 1) g942 | (show μ 94 2 - 1 = _; rfl)
        refine jv_aload_n rfl rfl rfl (by decide) ?_
        refine jv_bipush rfl rfl ?_
        refine jv_bipush rfl rfl ?_
        refine jv_aload_n rfl rfl rfl (by decide) ?_
        refine jv_geti rfl rfl rfl ⟨by decide, rfl⟩ (by decide) ?_
        refine jv_imul rfl rfl ⟨by omega, by omega⟩ ?_
        refine jv_iadd rfl rfl ⟨by omega, by omega⟩ ?_
        refine jv_iconst rfl rfl ?_
        refine jv_callV2 rfl rfl rfl rfl ⟨by decide, rfl⟩ (Nat.le_of_ble_eq_true rfl) (mo_copyTown (by omega) (by omega) (by omega) ?_)
        generalize eν19 : jm_uc ν10 95 (jt_cp (ν10 95) (62 + (62 * (ν10 94 2))) 0 62) = ν19
        show jV _ _ jm_p_X10_undo _ 20 [some (.inr (.inr 94))] [] ν19
        have u20 : ν19 94 2 = μ 94 2 - 1 := by rw [← eν19, jm_off1 (by decide)]; exact u10
        refine jv_aload_n rfl rfl rfl (by decide) ?_
        refine jv_geti rfl rfl rfl ⟨by decide, rfl⟩ (by decide) ?_
        refine jv_ireturn rfl (Or.inl rfl) ?_
        have z95 : ν19 95 = jt_cp (μ 95) (62 + 62 * (μ 94 2 - 1)) 0 62 := by rw [← eν19, jm_uc_self, u10, eν10, jm_off1 (by decide), g95]
        refine ⟨jv_one (by omega), jI_undo hI (by omega) hμ10 (fun z p q => by rw [← eν19, jm_off1 q, eν10, jm_off1 p]) (fun j q => ?_) u20 (fun j q => ?_) (fun j j0 j1 => ?_)⟩
        · rw [← eν19, jm_off1 (by decide), eν10, jm_uc_self]
          unfold jm_u1
          rw [if_neg q, g94]
        · rw [z95]
          unfold jt_cp
          rw [if_neg (by omega)]
        · rw [z95]
          unfold jt_cp
          rw [if_pos (by omega), show j - 0 = j by omega]
    · first
      | (exfalso; omega)
      | skip
        refine jv_ldc rfl rfl ?_
        refine jv_ireturn rfl (Or.inl rfl) ?_
        exfalso; omega
