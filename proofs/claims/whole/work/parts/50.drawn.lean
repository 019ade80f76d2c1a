/-! years by draws -/
def jdx (x : Int) : Int := x * 16807 % 2147483647
def jdT (t : Int → Int) (x : Int) (T : Int → Int) : Int → Int := if x % 7 = 0 then jt_beat T (x % t 0) else T
def jd1 (t : Int → Int) (q : Int × Int × (Int → Int)) : Int × Int × (Int → Int) := (jdx q.1, if 0 < t 1 then q.2.1 + jt_y (jdT t (jdx q.1) q.2.2) (jdx q.1 % t 1) (t 0).toNat else q.2.1, if 0 < t 1 then jt_come (jdT t (jdx q.1) q.2.2) (jdx q.1 % t 1) else jdT t (jdx q.1) q.2.2)
def jd (t : Int → Int) (sd : Int) : Nat → Int × Int × (Int → Int)
  | 0 => (sd, 0, t)
  | k + 1 => jd1 t (jd t sd k)
def jall (T : Int → Int) : Nat → Int
  | 0 => 0
  | k + 1 => jall T k + jt_lies T k
theorem jall_r {T : Int → Int} (hw : jt_wf T) : ∀ k : Nat, k ≤ 4 → 0 ≤ jall T k ∧ jall T k ≤ 60 * k
  | 0, _ => ⟨Int.le_refl _, Int.le_refl _⟩
  | k + 1, hk => by
    have i := jall_r hw k (by omega)
    have l := jt_lies_r hw (m := k) (by omega) (by omega)
    have w2 := hw.2.2.1
    simp only [jall]
    omega
theorem jall_congr {T U : Int → Int} (h : ∀ k, 0 ≤ k → k < 62 → T k = U k) : ∀ k : Nat, k ≤ 4 → jall T k = jall U k
  | 0, _ => rfl
  | k + 1, hk => by
    simp only [jall]
    rw [jall_congr h k (by omega), jt_lies_congr h (m := k) (by omega) (by omega)]
theorem jdx_r {x : Int} : 0 ≤ jdx x ∧ jdx x ≤ 2147483646 := by
  unfold jdx
  omega
theorem jz_mod {x n : Int} (h : 0 < n) : 0 ≤ x % n ∧ x % n < n := ⟨Int.emod_nonneg x (by omega), Int.emod_lt_of_pos x h⟩
theorem jz_lcmp0 {a : Int} : (if a < 0 then (-1 : Int) else if a = 0 then 0 else 1) = 0 ↔ a = 0 := by
  (repeat' split) <;> omega
theorem jdT_inv {t T : Int → Int} {x K : Int} (hw : jt_wf T) (hS : jS t T (fun p => p)) (hcf : jt_cf T K) (h0 : 0 < t 0 ∧ t 0 ≤ 4) : jt_wf (jdT t x T) ∧ jS t (jdT t x T) (fun p => p) ∧ jt_cf (jdT t x T) K := by
  have m := jz_mod (x := x) h0.1
  unfold jdT
  split
  · exact ⟨jt_beat_wf (by omega) hw, jS_beat (by omega) h0.2 hS, jt_cf_beat (by omega) hcf⟩
  · exact ⟨hw, hS, hcf⟩
theorem jd_inv {t : Int → Int} {sd K : Int} (hw : jt_wf t) (h0 : 0 < t 0) (hs : 0 ≤ sd ∧ sd ≤ 2147483646) (hcf : jt_cf t K) : ∀ (k : Nat) (xx y : Int) (T : Int → Int), jd t sd k = (xx, y, T) → (0 ≤ xx ∧ xx ≤ 2147483646) ∧ jt_wf T ∧ jS t T (fun p => p) ∧ (0 ≤ y ∧ y ≤ 60 * k) ∧ jt_cf T (K + k)
  | 0, xx, y, T, h => by
    have e1 : sd = xx := congrArg Prod.fst h
    have e2 : (0 : Int) = y := congrArg (fun q => q.2.1) h
    have e3 : t = T := congrArg (fun q => q.2.2) h
    rw [← e1, ← e2, ← e3]
    exact ⟨hs, hw, jS_id t, ⟨Int.le_refl _, Int.le_refl _⟩, fun c c0 c1 => by have q := hcf c c0 c1; omega⟩
  | k + 1, xx, y, T, h => by
    obtain ⟨x0, z0, T0⟩ : Int × Int × (Int → Int) := jd t sd k
    exact (by
      have hh : jd t sd (k + 1) = jd1 t (jd t sd k) := rfl
      rw [hh] at h
      generalize hq : jd t sd k = q at h
      obtain ⟨a, b, U⟩ := q
      obtain ⟨i1, i2, i3, i4, i5⟩ := jd_inv hw h0 hs hcf k a b U hq
      have w0 := hw.1
      have w1 := hw.2.1
      obtain ⟨v1, v2, v3⟩ := jdT_inv (x := jdx a) i2 i3 i5 ⟨h0, w0.2⟩
      have e1 : jdx a = xx := congrArg Prod.fst h
      have e2 : (if 0 < t 1 then b + jt_y (jdT t (jdx a) U) (jdx a % t 1) (t 0).toNat else b) = y := congrArg (fun q => q.2.1) h
      have e3 : (if 0 < t 1 then jt_come (jdT t (jdx a) U) (jdx a % t 1) else jdT t (jdx a) U) = T := congrArg (fun q => q.2.2) h
      have r := jdx_r (x := a)
      rw [← e1, ← e2, ← e3]
      by_cases hc : 0 < t 1
      · have m := jz_mod (x := jdx a) hc
        have yr := jt_y_r v1 (c := jdx a % t 1) m.1 (by omega) (t 0).toNat (by omega)
        rw [if_pos hc, if_pos hc]
        refine ⟨r, jt_come_wf v1 m.1 (by omega), jS_come v2 m.1 w0.2 w1.2, by omega, fun c c0 c1 => ?_⟩
        have q := jt_cf_come v3 m.1 v1.1.2 c c0 c1
        omega
      · rw [if_neg hc, if_neg hc]
        refine ⟨r, v1, v2, by omega, fun c c0 c1 => ?_⟩
        have q := v3 c c0 c1
        omega)
set_option maxRecDepth 10000 in
theorem cl_wAll_l {X : jm_X} {d : Nat} {Q : jv_P} {T : Int → Int} {μ : jm_M} (hn : μ 7 2 = T 0) (hw : jt_wf T) (hJ : jw (μ 51) (μ 52) (fun p => p) T) (k : Q [.inl (jall T (T 0).toNat)] μ) : ∀ (n : Nat) (y w : Int), 0 ≤ w → w ≤ T 0 → T 0 - w < n → y = jall T w.toNat → jV X d jm_p_X8_lyingInAll Q 4 [some (.inr (.inr 50)), some (.inr (.inr 7)), some (.inl y), some (.inl w)] [] μ := by
  have w0 := hw.1
  have w2 := hw.2.2.1
  intro n
  induction n with
  | zero => intro y w y0 y1 yn ey; exfalso; omega
  | succ n ih =>
    intro y w y0 y1 yn ey
    have hr := jall_r hw w.toNat (by omega)
    have hj : w < T 0 → μ 52 w = jt_lies T w ∧ 0 ≤ μ 52 w ∧ μ 52 w ≤ T 2 := fun q => ⟨(hJ.1 w y0 q).2, hJ.2 w y0 (by omega)⟩
    refine jv_iload_n rfl rfl rfl ?_
    refine jv_aload_n rfl rfl rfl (by decide) ?_
    refine jv_geti rfl rfl rfl ⟨by decide, rfl⟩ (by decide) ?_
    refine jv_icmp_ge rfl rfl rfl (fun c7 => ?_) (fun c7 => ?_)
    · refine jv_iload_n rfl rfl rfl ?_
      refine jv_ireturn rfl (Or.inl rfl) ?_
      have hx : w = T 0 := by omega
      rw [ey, hx]
      exact k
    · refine jv_iload_n rfl rfl rfl ?_
      refine jv_aload_n rfl rfl rfl (by decide) ?_
      refine jv_getr (w := 52) rfl rfl rfl ⟨by decide, rfl⟩ rfl rfl ?_
      refine jv_iload_n rfl rfl rfl ?_
      refine jv_iaload rfl rfl (by decide) rfl ⟨by omega, by omega⟩ ?_
      refine jv_iadd rfl rfl ⟨by omega, by omega⟩ ?_
      refine jv_istore_n (fun x => [some (.inr (.inr 50)), some (.inr (.inr 7)), some (.inl x), some (.inl w)]) rfl rfl (fun _ => rfl) (fun x2_14 ex2_14 => ?_)
      refine jv_iinc (fun x => [some (.inr (.inr 50)), some (.inr (.inr 7)), some (.inl x2_14), some (.inl x)]) rfl rfl rfl ⟨by omega, by omega⟩ (fun _ => rfl) (fun x3_15 ex3_15 => ?_)
      refine jv_goto rfl rfl ?_
      refine ih x2_14 x3_15 (by omega) (by omega) (by omega) ?_
      rw [ex3_15, show (w + 1).toNat = w.toNat + 1 by omega]
      simp only [jall]
      rw [show ((w.toNat : Nat) : Int) = w by omega, ex2_14, ← ey, (hj (by omega)).1]
set_option maxRecDepth 10000 in
theorem cl_wAll {X : jm_X} {d : Nat} {Q : jv_P} {μ : jm_M} {T : Int → Int} (hn : μ 7 2 = T 0) (hw : jt_wf T) (hJ : jw (μ 51) (μ 52) (fun p => p) T) (k : Q [.inl (jall T (T 0).toNat)] μ) : cV X (d + 1) 86 [.inr (.inr 50), .inr (.inr 7)] μ Q := by
  refine jv_enter (d := d + 0) jm_p_X8_lyingInAll [some (.inr (.inr 50)), some (.inr (.inr 7)), none, none] rfl rfl rfl (Nat.le_of_ble_eq_true rfl) rfl rfl ?_
  refine jv_iconst rfl rfl ?_
  refine jv_istore_nK (L2 := [some (.inr (.inr 50)), some (.inr (.inr 7)), some (.inl 0), none]) rfl rfl rfl ?_
  refine jv_iconst rfl rfl ?_
  refine jv_istore_nK (L2 := [some (.inr (.inr 50)), some (.inr (.inr 7)), some (.inl 0), some (.inl 0)]) rfl rfl rfl ?_
  exact cl_wAll_l hn hw hJ k 9 0 0 (by omega) hw.1.1 (by have := hw.1.2; omega) rfl
set_option maxRecDepth 10000 in
theorem mo_onAll_l {X : jm_X} {d : Nat} {Q : jv_P} {T : Int → Int} {base : Int} {μ : jm_M} (hb : 0 ≤ base ∧ base ≤ 1674) (hT : ∀ k, 0 ≤ k → k < 62 → T k = μ 95 (base + k)) (hw : jt_wf T) (k : Q [.inl (jall T (T 0).toNat)] μ) : ∀ (n : Nat) (y w : Int), 0 ≤ w → w ≤ T 0 → T 0 - w < n → y = jall T w.toNat → jV X (d + 1) jm_p_X10_onAll Q 4 [some (.inr (.inr 94)), some (.inl base), some (.inl y), some (.inl w)] [] μ := by
  have w0 := hw.1
  have w2 := hw.2.2.1
  have h0 := hT 0 (by decide) (by decide)
  have hww : jt_wf (fun k => μ 95 (base + k)) := jt_wf_congr hT hw
  intro n
  induction n with
  | zero => intro y w y0 y1 yn ey; exfalso; omega
  | succ n ih =>
    intro y w y0 y1 yn ey
    have hr := jall_r hw w.toNat (by omega)
    have hj : w < T 0 → jt_lies (fun k => μ 95 (base + k)) w = jt_lies T w ∧ 0 ≤ jt_lies T w ∧ jt_lies T w ≤ T 2 := fun q => ⟨(jt_lies_congr hT y0 (by omega)).symm, jt_lies_r hw y0 (by omega)⟩
    refine jv_iload_n rfl rfl rfl ?_
    refine jv_aload_n rfl rfl rfl (by decide) ?_
    refine jv_getr (w := 95) rfl rfl rfl ⟨by decide, rfl⟩ rfl rfl ?_
    refine jv_iload_n rfl rfl rfl ?_
    refine jv_iconst rfl rfl ?_
    refine jv_iadd rfl rfl ⟨by omega, by omega⟩ ?_
    refine jv_iaload rfl rfl (by decide) rfl ⟨by omega, by omega⟩ ?_
    refine jv_icmp_ge rfl rfl rfl (fun c11 => ?_) (fun c11 => ?_)
    · refine jv_iload_n rfl rfl rfl ?_
      refine jv_ireturn rfl (Or.inl rfl) ?_
      have hx : w = T 0 := by omega
      rw [ey, hx]
      exact k
    · refine jv_iload_n rfl rfl rfl ?_
      refine jv_aload_n rfl rfl rfl (by decide) ?_
      refine jv_iload_n rfl rfl rfl ?_
      refine jv_iload_n rfl rfl rfl ?_
      refine jv_callV2 rfl rfl rfl rfl ⟨by decide, rfl⟩ (Nat.le_of_ble_eq_true rfl) (mo_liesOn hb (by omega) hww ?_)
      show jV _ _ jm_p_X10_onAll _ 17 [some (.inr (.inr 94)), some (.inl base), some (.inl y), some (.inl w)] [.inl (jt_lies (fun k => μ 95 (base + k)) w), .inl y] μ
      refine jv_iadd rfl rfl ⟨by omega, by omega⟩ ?_
      refine jv_istore_n (fun x => [some (.inr (.inr 94)), some (.inl base), some (.inl x), some (.inl w)]) rfl rfl (fun _ => rfl) (fun x2_18 ex2_18 => ?_)
      refine jv_iinc (fun x => [some (.inr (.inr 94)), some (.inl base), some (.inl x2_18), some (.inl x)]) rfl rfl rfl ⟨by omega, by omega⟩ (fun _ => rfl) (fun x3_19 ex3_19 => ?_)
      refine jv_goto rfl rfl ?_
      refine ih x2_18 x3_19 (by omega) (by omega) (by omega) ?_
      rw [ex3_19, show (w + 1).toNat = w.toNat + 1 by omega]
      simp only [jall]
      rw [show ((w.toNat : Nat) : Int) = w by omega, ex2_18, ← ey, (hj (by omega)).1]
set_option maxRecDepth 10000 in
theorem mo_onAll {X : jm_X} {d : Nat} {Q : jv_P} {μ : jm_M} {T : Int → Int} {base : Int} (hb : 0 ≤ base ∧ base ≤ 1674) (hT : ∀ k, 0 ≤ k → k < 62 → T k = μ 95 (base + k)) (hw : jt_wf T) (k : Q [.inl (jall T (T 0).toNat)] μ) : cV X (d + 2) 167 [.inr (.inr 94), .inl base] μ Q := by
  refine jv_enter (d := d + 1) jm_p_X10_onAll [some (.inr (.inr 94)), some (.inl base), none, none] rfl rfl rfl (Nat.le_of_ble_eq_true rfl) rfl rfl ?_
  refine jv_iconst rfl rfl ?_
  refine jv_istore_nK (L2 := [some (.inr (.inr 94)), some (.inl base), some (.inl 0), none]) rfl rfl rfl ?_
  refine jv_iconst rfl rfl ?_
  refine jv_istore_nK (L2 := [some (.inr (.inr 94)), some (.inl base), some (.inl 0), some (.inl 0)]) rfl rfl rfl ?_
  exact mo_onAll_l hb hT hw k 9 0 0 (by omega) hw.1.1 (by have := hw.1.2; omega) rfl
set_option maxRecDepth 10000 in
theorem cl_years_l {X : jm_X} {d : Nat} {Q : jv_P} {t : Int → Int} {n0 sd ab : Int} {μ0 : jm_M} (hH0 : jH μ0 t) (h0 : 0 < t 0) (hcf : jt_cf t 999) (hsd : 0 ≤ sd ∧ sd ≤ 2147483646) (hn : 0 ≤ n0 ∧ n0 ≤ 60) (k0 : ab = 0 → ∀ μ2, jf μ0 μ2 → Q [.inl (jall (jd t sd n0.toNat).2.2 (t 0).toNat)] μ2) (k1 : ¬ ab = 0 → ∀ μ2, jf μ0 μ2 → Q [.inl (jd t sd n0.toNat).2.1] μ2) : ∀ (n : Nat) (xx y w : Int) (T : Int → Int) (μ : jm_M), 0 ≤ w → w ≤ n0 → n0 - w < n → jd t sd w.toNat = (xx, y, T) → jw (μ 51) (μ 52) (fun p => p) T → jf μ0 μ → jV X (d + 2) jm_p_X2_years Q 11 [some (.inr (.inr 49)), some (.inr (.inr 7)), some (.inl n0), some (.inl sd), some (.inl ab), some (.inr (.inl xx)), none, some (.inl y), some (.inl w)] [] μ := by
  intro n
  induction n with
  | zero => intro xx y w T μ y0 y1 yn hD hj hf; exfalso; omega
  | succ n ih =>
    intro xx y w T μ y0 y1 yn hD hj hf
    have hHμ := jH_jf hf hH0
    have n3μ := jH_3 hHμ
    have n2μ := jH_2 hHμ
    obtain ⟨w0, w1, w2, w3, w4, w6, w7, w8⟩ := id hHμ.1
    obtain ⟨d1, d2, d3, d4, d5⟩ := jd_inv hHμ.1 h0 hsd hcf w.toNat xx y T hD
    have e0 : T 0 = t 0 := d3.1
    refine jv_iload rfl rfl rfl ?_
    refine jv_iload_n rfl rfl rfl ?_
    refine jv_icmp_ge rfl rfl rfl (fun c13 => ?_) (fun c13 => ?_)
    · refine jv_iload rfl rfl rfl ?_
      refine jv_if_eq rfl rfl rfl (fun c62 => ?_) (fun c62 => ?_)
      · refine jv_aload_n rfl rfl rfl (by decide) ?_
        refine jv_getr (w := 50) rfl rfl rfl ⟨by decide, rfl⟩ rfl rfl ?_
        refine jv_aload_n rfl rfl rfl (by decide) ?_
        refine jv_callV1 rfl rfl rfl rfl ⟨by decide, rfl⟩ (Nat.le_of_ble_eq_true rfl) (cl_wAll (by rw [e0]; exact n2μ) d2 hj ?_)
        show jV _ _ jm_p_X2_years _ 69 [some (.inr (.inr 49)), some (.inr (.inr 7)), some (.inl n0), some (.inl sd), some (.inl ab), some (.inr (.inl xx)), none, some (.inl y), some (.inl w)] [.inl (jall T (T 0).toNat)] μ
        refine jv_ireturn rfl (Or.inl rfl) ?_
        have hw : w = n0 := by omega
        rw [hw] at hD
        first
        | (have q := k1 (by omega) _ hf
           rw [hD] at q
           exact q)
        | (have q := k0 (by omega) _ hf
           rw [hD] at q
           rw [e0]
           exact q)
      · refine jv_iload rfl rfl rfl ?_
        refine jv_goto rfl rfl ?_
        refine jv_ireturn rfl (Or.inl rfl) ?_
        have hw : w = n0 := by omega
        rw [hw] at hD
        first
        | (have q := k1 (by omega) _ hf
           rw [hD] at q
           exact q)
        | (have q := k0 (by omega) _ hf
           rw [hD] at q
           rw [e0]
           exact q)
    · refine jv_lload rfl rfl rfl ?_
      refine jv_ldc2_w rfl rfl ?_
      refine jv_lmul rfl rfl ⟨by omega, by omega⟩ ?_
      refine jv_ldc2_w rfl rfl ?_
      refine jv_lrem rfl rfl ⟨by omega, by omega⟩ ?_
      refine jv_lstore (fun x => [some (.inr (.inr 49)), some (.inr (.inr 7)), some (.inl n0), some (.inl sd), some (.inl ab), some (.inr (.inl x)), none, some (.inl y), some (.inl w)]) rfl rfl (fun _ => rfl) (fun x5_19 ex5_19 => ?_)
      have hx : x5_19 = jdx xx := ex5_19
      have rx := jdx_r (x := xx)
      rw [← hx] at rx
      clear ex5_19
      have m0 := jz_mod (x := x5_19) h0
      have c0 : 0 < t 1 → 0 ≤ x5_19 % t 1 ∧ x5_19 % t 1 < t 1 := fun q => jz_mod q
      have vT := jdT_inv (x := x5_19) d2 d3 d5 ⟨h0, w0.2⟩
      refine jv_lload rfl rfl rfl ?_
      refine jv_ldc2_w rfl rfl ?_
      refine jv_lrem rfl rfl ⟨by omega, by omega⟩ ?_
      refine jv_lconst rfl rfl ?_
      refine jv_lcmp rfl rfl ?_
      generalize hl : (if (x5_19 % (7)) < 0 then -1 else if (x5_19 % (7)) = 0 then 0 else 1 : Int) = l24
      have z24 : l24 = 0 ↔ (x5_19 % (7)) = 0 := by rw [← hl]; exact jz_lcmp0
      clear hl
      refine jv_if_ne rfl rfl rfl (fun c25 => ?_) (fun c25 => ?_)
      · refine jv_aload_n rfl rfl rfl (by decide) ?_
        refine jv_geti rfl rfl rfl ⟨by decide, rfl⟩ (by decide) ?_
        refine jv_if_le rfl rfl rfl (fun c42 => ?_) (fun c42 => ?_)
        · refine jv_iinc (fun x => [some (.inr (.inr 49)), some (.inr (.inr 7)), some (.inl n0), some (.inl sd), some (.inl ab), some (.inr (.inl x5_19)), none, some (.inl y), some (.inl x)]) rfl rfl rfl ⟨by omega, by omega⟩ (fun _ => rfl) (fun x8_59 ex8_59 => ?_)
          refine jv_goto rfl rfl ?_
          have eT : jdT t x5_19 T = T := by unfold jdT; rw [if_neg (by omega)]
          refine ih x5_19 y x8_59 T μ (by omega) (by omega) (by omega) ?_ hj (fun z p => by rw [hf z p])
          rw [ex8_59, show (w + 1).toNat = w.toNat + 1 by omega]
          show jd1 t (jd t sd w.toNat) = _
          rw [hD]
          show (jdx xx, (if 0 < t 1 then y + jt_y (jdT t (jdx xx) T) (jdx xx % t 1) (t 0).toNat else y), (if 0 < t 1 then jt_come (jdT t (jdx xx) T) (jdx xx % t 1) else jdT t (jdx xx) T)) = _
          rw [← hx, eT]
          rw [if_neg (by omega), if_neg (by omega)]
        · refine jv_iload rfl rfl rfl ?_
          refine jv_aload_n rfl rfl rfl (by decide) ?_
          refine jv_getr (w := 50) rfl rfl rfl ⟨by decide, rfl⟩ rfl rfl ?_
          refine jv_aload_n rfl rfl rfl (by decide) ?_
          refine jv_aload_n rfl rfl rfl (by decide) ?_
          refine jv_getr (w := 9) rfl rfl rfl ⟨by decide, rfl⟩ rfl rfl ?_
          refine jv_lload rfl rfl rfl ?_
          refine jv_aload_n rfl rfl rfl (by decide) ?_
          refine jv_geti rfl rfl rfl ⟨by decide, rfl⟩ (by decide) ?_
          refine jv_i2l rfl rfl ?_
          refine jv_lrem rfl rfl ⟨by omega, by omega⟩ ?_
          rw [n3μ]
          refine jv_l2i rfl rfl ⟨by omega, by omega⟩ ?_
          refine jv_aaloadv (v := 18 + (x5_19 % t 1)) rfl rfl rfl ⟨by decide, by decide, by decide⟩ ⟨by omega, by omega⟩ (jH_com hHμ (by omega) (by omega)) ?_
          have eT : jdT t x5_19 T = T := by unfold jdT; rw [if_neg (by omega)]
          rw [eT] at vT
          have yr := jt_y_r vT.1 (c := (x5_19 % t 1)) (by omega) (by omega) (T 0).toNat (by have := vT.1.1; omega)
          refine jv_callV2 rfl rfl rfl rfl ⟨by decide, rfl⟩ (Nat.le_of_ble_eq_true rfl) (cl_goC50 (c := (x5_19 % t 1)) hHμ vT.1 vT.2.1 (jl_id _) (by omega) hj (fun μ56 fμ56 jμ56 lμ56 => ?_))
          show jV _ _ jm_p_X2_years _ 57 [some (.inr (.inr 49)), some (.inr (.inr 7)), some (.inl n0), some (.inl sd), some (.inl ab), some (.inr (.inl x5_19)), none, some (.inl y), some (.inl w)] [.inl (jt_y T (x5_19 % t 1) (T 0).toNat), .inl y] μ56
          refine jv_iadd rfl rfl ⟨by omega, by omega⟩ ?_
          refine jv_istore (fun x => [some (.inr (.inr 49)), some (.inr (.inr 7)), some (.inl n0), some (.inl sd), some (.inl ab), some (.inr (.inl x5_19)), none, some (.inl x), some (.inl w)]) rfl rfl (fun _ => rfl) (fun x7_58 ex7_58 => ?_)
          refine jv_iinc (fun x => [some (.inr (.inr 49)), some (.inr (.inr 7)), some (.inl n0), some (.inl sd), some (.inl ab), some (.inr (.inl x5_19)), none, some (.inl x7_58), some (.inl x)]) rfl rfl rfl ⟨by omega, by omega⟩ (fun _ => rfl) (fun x8_59_1 ex8_59_1 => ?_)
          refine jv_goto rfl rfl ?_
          refine ih x5_19 x7_58 x8_59_1 (jt_come T (x5_19 % t 1)) μ56 (by omega) (by omega) (by omega) ?_ jμ56 (fun z p => by rw [fμ56 z (by omega) (by omega), hf z p])
          rw [ex8_59_1, show (w + 1).toNat = w.toNat + 1 by omega]
          show jd1 t (jd t sd w.toNat) = _
          rw [hD]
          show (jdx xx, (if 0 < t 1 then y + jt_y (jdT t (jdx xx) T) (jdx xx % t 1) (t 0).toNat else y), (if 0 < t 1 then jt_come (jdT t (jdx xx) T) (jdx xx % t 1) else jdT t (jdx xx) T)) = _
          rw [← hx, eT]
          rw [if_pos (by omega), if_pos (by omega), ex7_58, vT.2.1.1]
      · refine jv_aload_n rfl rfl rfl (by decide) ?_
        refine jv_geti rfl rfl rfl ⟨by decide, rfl⟩ (by decide) ?_
        refine jv_if_le rfl rfl rfl (fun c28 => ?_) (fun c28 => ?_)
        · refine jv_aload_n rfl rfl rfl (by decide) ?_
          refine jv_geti rfl rfl rfl ⟨by decide, rfl⟩ (by decide) ?_
          refine jv_if_le rfl rfl rfl (fun c42_1 => ?_) (fun c42_1 => ?_)
          · refine jv_iinc (fun x => [some (.inr (.inr 49)), some (.inr (.inr 7)), some (.inl n0), some (.inl sd), some (.inl ab), some (.inr (.inl x5_19)), none, some (.inl y), some (.inl x)]) rfl rfl rfl ⟨by omega, by omega⟩ (fun _ => rfl) (fun x8_59_2 ex8_59_2 => ?_)
            refine jv_goto rfl rfl ?_
            have eT : jdT t x5_19 T = T := by unfold jdT; rw [if_neg (by omega)]
            refine ih x5_19 y x8_59_2 T μ (by omega) (by omega) (by omega) ?_ hj (fun z p => by rw [hf z p])
            rw [ex8_59_2, show (w + 1).toNat = w.toNat + 1 by omega]
            show jd1 t (jd t sd w.toNat) = _
            rw [hD]
            show (jdx xx, (if 0 < t 1 then y + jt_y (jdT t (jdx xx) T) (jdx xx % t 1) (t 0).toNat else y), (if 0 < t 1 then jt_come (jdT t (jdx xx) T) (jdx xx % t 1) else jdT t (jdx xx) T)) = _
            rw [← hx, eT]
            rw [if_neg (by omega), if_neg (by omega)]
          · refine jv_iload rfl rfl rfl ?_
            refine jv_aload_n rfl rfl rfl (by decide) ?_
            refine jv_getr (w := 50) rfl rfl rfl ⟨by decide, rfl⟩ rfl rfl ?_
            refine jv_aload_n rfl rfl rfl (by decide) ?_
            refine jv_aload_n rfl rfl rfl (by decide) ?_
            refine jv_getr (w := 9) rfl rfl rfl ⟨by decide, rfl⟩ rfl rfl ?_
            refine jv_lload rfl rfl rfl ?_
            refine jv_aload_n rfl rfl rfl (by decide) ?_
            refine jv_geti rfl rfl rfl ⟨by decide, rfl⟩ (by decide) ?_
            refine jv_i2l rfl rfl ?_
            refine jv_lrem rfl rfl ⟨by omega, by omega⟩ ?_
            rw [n3μ]
            refine jv_l2i rfl rfl ⟨by omega, by omega⟩ ?_
            refine jv_aaloadv (v := 18 + (x5_19 % t 1)) rfl rfl rfl ⟨by decide, by decide, by decide⟩ ⟨by omega, by omega⟩ (jH_com hHμ (by omega) (by omega)) ?_
            have eT : jdT t x5_19 T = T := by unfold jdT; rw [if_neg (by omega)]
            rw [eT] at vT
            have yr := jt_y_r vT.1 (c := (x5_19 % t 1)) (by omega) (by omega) (T 0).toNat (by have := vT.1.1; omega)
            refine jv_callV2 rfl rfl rfl rfl ⟨by decide, rfl⟩ (Nat.le_of_ble_eq_true rfl) (cl_goC50 (c := (x5_19 % t 1)) hHμ vT.1 vT.2.1 (jl_id _) (by omega) hj (fun μ56_1 fμ56_1 jμ56_1 lμ56_1 => ?_))
            show jV _ _ jm_p_X2_years _ 57 [some (.inr (.inr 49)), some (.inr (.inr 7)), some (.inl n0), some (.inl sd), some (.inl ab), some (.inr (.inl x5_19)), none, some (.inl y), some (.inl w)] [.inl (jt_y T (x5_19 % t 1) (T 0).toNat), .inl y] μ56_1
            refine jv_iadd rfl rfl ⟨by omega, by omega⟩ ?_
            refine jv_istore (fun x => [some (.inr (.inr 49)), some (.inr (.inr 7)), some (.inl n0), some (.inl sd), some (.inl ab), some (.inr (.inl x5_19)), none, some (.inl x), some (.inl w)]) rfl rfl (fun _ => rfl) (fun x7_58_1 ex7_58_1 => ?_)
            refine jv_iinc (fun x => [some (.inr (.inr 49)), some (.inr (.inr 7)), some (.inl n0), some (.inl sd), some (.inl ab), some (.inr (.inl x5_19)), none, some (.inl x7_58_1), some (.inl x)]) rfl rfl rfl ⟨by omega, by omega⟩ (fun _ => rfl) (fun x8_59_3 ex8_59_3 => ?_)
            refine jv_goto rfl rfl ?_
            refine ih x5_19 x7_58_1 x8_59_3 (jt_come T (x5_19 % t 1)) μ56_1 (by omega) (by omega) (by omega) ?_ jμ56_1 (fun z p => by rw [fμ56_1 z (by omega) (by omega), hf z p])
            rw [ex8_59_3, show (w + 1).toNat = w.toNat + 1 by omega]
            show jd1 t (jd t sd w.toNat) = _
            rw [hD]
            show (jdx xx, (if 0 < t 1 then y + jt_y (jdT t (jdx xx) T) (jdx xx % t 1) (t 0).toNat else y), (if 0 < t 1 then jt_come (jdT t (jdx xx) T) (jdx xx % t 1) else jdT t (jdx xx) T)) = _
            rw [← hx, eT]
            rw [if_pos (by omega), if_pos (by omega), ex7_58_1, vT.2.1.1]
        · refine jv_aload_n rfl rfl rfl (by decide) ?_
          refine jv_getr (w := 50) rfl rfl rfl ⟨by decide, rfl⟩ rfl rfl ?_
          refine jv_getr (w := 52) rfl rfl rfl ⟨by decide, rfl⟩ rfl rfl ?_
          refine jv_lload rfl rfl rfl ?_
          refine jv_aload_n rfl rfl rfl (by decide) ?_
          refine jv_geti rfl rfl rfl ⟨by decide, rfl⟩ (by decide) ?_
          refine jv_i2l rfl rfl ?_
          refine jv_lrem rfl rfl ⟨by omega, by omega⟩ ?_
          rw [n2μ]
          refine jv_l2i rfl rfl ⟨by omega, by omega⟩ ?_
          refine jv_iconst rfl rfl ?_
          refine jv_iastore rfl rfl rfl (by decide) ⟨by omega, by omega⟩ (fun μ39 eμ39 => ?_)
          have gμ39 : ∀ z, z ≠ 52 → μ39 z = μ z := fun z q => by rw [eμ39, jm_off1 q]
          have hHμ39 := jH_congr (fun z a b => gμ39 z (by omega)) hHμ
          have n3μ39 := jH_3 hHμ39
          have n2μ39 := jH_2 hHμ39
          have hjb : jw (μ39 51) (μ39 52) (fun p => p) (jt_beat T (x5_19 % t 0)) := by
            rw [gμ39 51 (by decide), eμ39, jm_uc_self]
            exact jw_beat (by omega) d2 hj
          refine jv_aload_n rfl rfl rfl (by decide) ?_
          refine jv_geti rfl rfl rfl ⟨by decide, rfl⟩ (by decide) ?_
          refine jv_if_le rfl rfl rfl (fun c42_2 => ?_) (fun c42_2 => ?_)
          · refine jv_iinc (fun x => [some (.inr (.inr 49)), some (.inr (.inr 7)), some (.inl n0), some (.inl sd), some (.inl ab), some (.inr (.inl x5_19)), none, some (.inl y), some (.inl x)]) rfl rfl rfl ⟨by omega, by omega⟩ (fun _ => rfl) (fun x8_59_4 ex8_59_4 => ?_)
            refine jv_goto rfl rfl ?_
            have eT : jdT t x5_19 T = (jt_beat T (x5_19 % t 0)) := by unfold jdT; rw [if_pos (by omega)]
            refine ih x5_19 y x8_59_4 (jt_beat T (x5_19 % t 0)) μ39 (by omega) (by omega) (by omega) ?_ hjb (fun z p => by rw [gμ39 z (by omega), hf z p])
            rw [ex8_59_4, show (w + 1).toNat = w.toNat + 1 by omega]
            show jd1 t (jd t sd w.toNat) = _
            rw [hD]
            show (jdx xx, (if 0 < t 1 then y + jt_y (jdT t (jdx xx) T) (jdx xx % t 1) (t 0).toNat else y), (if 0 < t 1 then jt_come (jdT t (jdx xx) T) (jdx xx % t 1) else jdT t (jdx xx) T)) = _
            rw [← hx, eT]
            rw [if_neg (by omega), if_neg (by omega)]
          · refine jv_iload rfl rfl rfl ?_
            refine jv_aload_n rfl rfl rfl (by decide) ?_
            refine jv_getr (w := 50) rfl rfl rfl ⟨by decide, rfl⟩ rfl rfl ?_
            refine jv_aload_n rfl rfl rfl (by decide) ?_
            refine jv_aload_n rfl rfl rfl (by decide) ?_
            refine jv_getr (w := 9) rfl rfl rfl ⟨by decide, rfl⟩ rfl rfl ?_
            refine jv_lload rfl rfl rfl ?_
            refine jv_aload_n rfl rfl rfl (by decide) ?_
            refine jv_geti rfl rfl rfl ⟨by decide, rfl⟩ (by decide) ?_
            refine jv_i2l rfl rfl ?_
            refine jv_lrem rfl rfl ⟨by omega, by omega⟩ ?_
            rw [n3μ39]
            refine jv_l2i rfl rfl ⟨by omega, by omega⟩ ?_
            refine jv_aaloadv (v := 18 + (x5_19 % t 1)) rfl rfl rfl ⟨by decide, by decide, by decide⟩ ⟨by omega, by omega⟩ (jH_com hHμ39 (by omega) (by omega)) ?_
            have eT : jdT t x5_19 T = (jt_beat T (x5_19 % t 0)) := by unfold jdT; rw [if_pos (by omega)]
            rw [eT] at vT
            have yr := jt_y_r vT.1 (c := (x5_19 % t 1)) (by omega) (by omega) ((jt_beat T (x5_19 % t 0)) 0).toNat (by have := vT.1.1; omega)
            refine jv_callV2 rfl rfl rfl rfl ⟨by decide, rfl⟩ (Nat.le_of_ble_eq_true rfl) (cl_goC50 (c := (x5_19 % t 1)) hHμ39 vT.1 vT.2.1 (jl_id _) (by omega) hjb (fun μ56_2 fμ56_2 jμ56_2 lμ56_2 => ?_))
            show jV _ _ jm_p_X2_years _ 57 [some (.inr (.inr 49)), some (.inr (.inr 7)), some (.inl n0), some (.inl sd), some (.inl ab), some (.inr (.inl x5_19)), none, some (.inl y), some (.inl w)] [.inl (jt_y (jt_beat T (x5_19 % t 0)) (x5_19 % t 1) ((jt_beat T (x5_19 % t 0)) 0).toNat), .inl y] μ56_2
            refine jv_iadd rfl rfl ⟨by omega, by omega⟩ ?_
            refine jv_istore (fun x => [some (.inr (.inr 49)), some (.inr (.inr 7)), some (.inl n0), some (.inl sd), some (.inl ab), some (.inr (.inl x5_19)), none, some (.inl x), some (.inl w)]) rfl rfl (fun _ => rfl) (fun x7_58_2 ex7_58_2 => ?_)
            refine jv_iinc (fun x => [some (.inr (.inr 49)), some (.inr (.inr 7)), some (.inl n0), some (.inl sd), some (.inl ab), some (.inr (.inl x5_19)), none, some (.inl x7_58_2), some (.inl x)]) rfl rfl rfl ⟨by omega, by omega⟩ (fun _ => rfl) (fun x8_59_5 ex8_59_5 => ?_)
            refine jv_goto rfl rfl ?_
            refine ih x5_19 x7_58_2 x8_59_5 (jt_come (jt_beat T (x5_19 % t 0)) (x5_19 % t 1)) μ56_2 (by omega) (by omega) (by omega) ?_ jμ56_2 (fun z p => by rw [fμ56_2 z (by omega) (by omega), gμ39 z (by omega), hf z p])
            rw [ex8_59_5, show (w + 1).toNat = w.toNat + 1 by omega]
            show jd1 t (jd t sd w.toNat) = _
            rw [hD]
            show (jdx xx, (if 0 < t 1 then y + jt_y (jdT t (jdx xx) T) (jdx xx % t 1) (t 0).toNat else y), (if 0 < t 1 then jt_come (jdT t (jdx xx) T) (jdx xx % t 1) else jdT t (jdx xx) T)) = _
            rw [← hx, eT]
            rw [if_pos (by omega), if_pos (by omega), ex7_58_2, vT.2.1.1]
set_option maxRecDepth 10000 in
theorem cl_years {X : jm_X} {d : Nat} {Q : jv_P} {μ : jm_M} {t : Int → Int} {n0 sd ab : Int} (hHμ : jH μ t) (h0 : 0 < t 0) (hcf : jt_cf t 999) (hsd : 0 ≤ sd ∧ sd ≤ 2147483646) (hn : 0 ≤ n0 ∧ n0 ≤ 60) (k0 : ab = 0 → ∀ μ2, jf μ μ2 → Q [.inl (jall (jd t sd n0.toNat).2.2 (t 0).toNat)] μ2) (k1 : ¬ ab = 0 → ∀ μ2, jf μ μ2 → Q [.inl (jd t sd n0.toNat).2.1] μ2) : cV X (d + 3) 30 [.inr (.inr 49), .inr (.inr 7), .inl n0, .inl sd, .inl ab] μ Q := by
  refine jv_enter (d := d + 2) jm_p_X2_years [some (.inr (.inr 49)), some (.inr (.inr 7)), some (.inl n0), some (.inl sd), some (.inl ab), none, none, none, none] rfl rfl rfl (Nat.le_of_ble_eq_true rfl) rfl rfl ?_
  refine jv_iload_n rfl rfl rfl ?_
  refine jv_i2l rfl rfl ?_
  refine jv_lstore (fun x => [some (.inr (.inr 49)), some (.inr (.inr 7)), some (.inl n0), some (.inl sd), some (.inl ab), some (.inr (.inl x)), none, none, none]) rfl rfl (fun _ => rfl) (fun x5_2 ex5_2 => ?_)
  refine jv_iconst rfl rfl ?_
  refine jv_istoreK (L2 := [some (.inr (.inr 49)), some (.inr (.inr 7)), some (.inl n0), some (.inl sd), some (.inl ab), some (.inr (.inl x5_2)), none, some (.inl 0), none]) rfl rfl rfl ?_
  refine jv_aload_n rfl rfl rfl (by decide) ?_
  refine jv_getr (w := 50) rfl rfl rfl ⟨by decide, rfl⟩ rfl rfl ?_
  refine jv_aload_n rfl rfl rfl (by decide) ?_
  refine jv_callV1 rfl rfl rfl rfl ⟨by decide, rfl⟩ (Nat.le_of_ble_eq_true rfl) (cl_beginT50 hHμ (fun μ8 fμ8 jμ8 lμ8 => ?_))
  show jV _ _ jm_p_X2_years _ 9 [some (.inr (.inr 49)), some (.inr (.inr 7)), some (.inl n0), some (.inl sd), some (.inl ab), some (.inr (.inl x5_2)), none, some (.inl 0), none] [] μ8
  have hHμ8 := jH_congr (fun z a b => fμ8 z (by omega) (by omega) (by omega)) hHμ
  have n3μ8 := jH_3 hHμ8
  have n2μ8 := jH_2 hHμ8
  refine jv_iconst rfl rfl ?_
  refine jv_istoreK (L2 := [some (.inr (.inr 49)), some (.inr (.inr 7)), some (.inl n0), some (.inl sd), some (.inl ab), some (.inr (.inl x5_2)), none, some (.inl 0), some (.inl 0)]) rfl rfl rfl ?_
  exact cl_years_l hHμ8 h0 hcf hsd hn (fun h μ2 f => k0 h μ2 (fun z p => by rw [f z p, fμ8 z (by omega) (by omega) (by omega)])) (fun h μ2 f => k1 h μ2 (fun z p => by rw [f z p, fμ8 z (by omega) (by omega) (by omega)])) 61 x5_2 0 0 t μ8 (by omega) (by omega) (by omega) (by rw [ex5_2]; rfl) jμ8 (fun _ _ => rfl)
set_option maxRecDepth 10000 in
theorem mo_drawn_l {X : jm_X} {d : Nat} {Q : jv_P} {t : Int → Int} {n0 sd wt : Int} {μ0 : jm_M} (hU0 : jU μ0 t) (hw : jt_wf t) (h0 : 0 < t 0) (hcf : jt_cf t 999) (hsd : 0 ≤ sd ∧ sd ≤ 2147483646) (hn : 0 ≤ n0 ∧ n0 ≤ 60) (k0 : wt = 0 → ∀ μ2, jr μ0 μ2 → Q [.inl (jd t sd n0.toNat).2.1] μ2) (k1 : ¬ wt = 0 → ∀ μ2, jr μ0 μ2 → Q [.inl (jall (jd t sd n0.toNat).2.2 (t 0).toNat)] μ2) : ∀ (n : Nat) (xx y w : Int) (T : Int → Int) (μ : jm_M), 0 ≤ w → w ≤ n0 → n0 - w < n → jd t sd w.toNat = (xx, y, T) → jT μ T → jr μ0 μ → jV X (d + 3) jm_p_X10_drawn Q 34 [some (.inr (.inr 94)), some (.inl n0), some (.inl sd), some (.inl wt), some (.inr (.inl xx)), none, some (.inl y), some (.inl w)] [] μ := by
  intro n
  induction n with
  | zero => intro xx y w T μ y0 y1 yn hD hj hf; exfalso; omega
  | succ n ih =>
    intro xx y w T μ y0 y1 yn hD hj hf
    have hUμ := jU_jr hf hU0
    have u0μ := hUμ 0 (by decide) (by decide)
    have u1μ := hUμ 1 (by decide) (by decide)
    obtain ⟨w0, w1, w2, w3, w4, w6, w7, w8⟩ := id hw
    obtain ⟨d1, d2, d3, d4, d5⟩ := jd_inv hw h0 hsd hcf w.toNat xx y T hD
    have e0 : T 0 = t 0 := d3.1
    refine jv_iload rfl rfl rfl ?_
    refine jv_iload_n rfl rfl rfl ?_
    refine jv_icmp_ge rfl rfl rfl (fun c36 => ?_) (fun c36 => ?_)
    · refine jv_iload_n rfl rfl rfl ?_
      refine jv_if_ne rfl rfl rfl (fun c83 => ?_) (fun c83 => ?_)
      · refine jv_aload_n rfl rfl rfl (by decide) ?_
        refine jv_sipush rfl rfl ?_
        refine jv_callV1 rfl rfl rfl rfl ⟨by decide, rfl⟩ (Nat.le_of_ble_eq_true rfl) (mo_onAll (T := T) (by omega) (fun j j0 j1 => (hj j j0 j1).symm) d2 ?_)
        show jV _ _ jm_p_X10_drawn _ 89 [some (.inr (.inr 94)), some (.inl n0), some (.inl sd), some (.inl wt), some (.inr (.inl xx)), none, some (.inl y), some (.inl w)] [.inl (jall T (T 0).toNat)] μ
        refine jv_ireturn rfl (Or.inl rfl) ?_
        have hw : w = n0 := by omega
        rw [hw] at hD
        first
        | (have q := k0 (by omega) _ hf
           rw [hD] at q
           exact q)
        | (have q := k1 (by omega) _ hf
           rw [hD] at q
           rw [e0]
           exact q)
      · refine jv_iload rfl rfl rfl ?_
        refine jv_goto rfl rfl ?_
        refine jv_ireturn rfl (Or.inl rfl) ?_
        have hw : w = n0 := by omega
        rw [hw] at hD
        first
        | (have q := k0 (by omega) _ hf
           rw [hD] at q
           exact q)
        | (have q := k1 (by omega) _ hf
           rw [hD] at q
           rw [e0]
           exact q)
    · refine jv_lload rfl rfl rfl ?_
      refine jv_ldc2_w rfl rfl ?_
      refine jv_lmul rfl rfl ⟨by omega, by omega⟩ ?_
      refine jv_ldc2_w rfl rfl ?_
      refine jv_lrem rfl rfl ⟨by omega, by omega⟩ ?_
      refine jv_lstore (fun x => [some (.inr (.inr 94)), some (.inl n0), some (.inl sd), some (.inl wt), some (.inr (.inl x)), none, some (.inl y), some (.inl w)]) rfl rfl (fun _ => rfl) (fun x4_42 ex4_42 => ?_)
      have hx : x4_42 = jdx xx := ex4_42
      have rx := jdx_r (x := xx)
      rw [← hx] at rx
      clear ex4_42
      have m0 := jz_mod (x := x4_42) h0
      have c0 : 0 < t 1 → 0 ≤ x4_42 % t 1 ∧ x4_42 % t 1 < t 1 := fun q => jz_mod q
      have vT := jdT_inv (x := x4_42) d2 d3 d5 ⟨h0, w0.2⟩
      refine jv_lload rfl rfl rfl ?_
      refine jv_ldc2_w rfl rfl ?_
      refine jv_lrem rfl rfl ⟨by omega, by omega⟩ ?_
      refine jv_lconst rfl rfl ?_
      refine jv_lcmp rfl rfl ?_
      generalize hl : (if (x4_42 % (7)) < 0 then -1 else if (x4_42 % (7)) = 0 then 0 else 1 : Int) = l24
      have z24 : l24 = 0 ↔ (x4_42 % (7)) = 0 := by rw [← hl]; exact jz_lcmp0
      clear hl
      refine jv_if_ne rfl rfl rfl (fun c48 => ?_) (fun c48 => ?_)
      · refine jv_aload_n rfl rfl rfl (by decide) ?_
        refine jv_getr (w := 95) rfl rfl rfl ⟨by decide, rfl⟩ rfl rfl ?_
        refine jv_iconst rfl rfl ?_
        refine jv_iaload rfl rfl (by decide) rfl ⟨by omega, by omega⟩ ?_
        refine jv_if_le rfl rfl rfl (fun c65 => ?_) (fun c65 => ?_)
        · refine jv_iinc (fun x => [some (.inr (.inr 94)), some (.inl n0), some (.inl sd), some (.inl wt), some (.inr (.inl x4_42)), none, some (.inl y), some (.inl x)]) rfl rfl rfl ⟨by omega, by omega⟩ (fun _ => rfl) (fun x7_80 ex7_80 => ?_)
          refine jv_goto rfl rfl ?_
          have eT : jdT t x4_42 T = T := by unfold jdT; rw [if_neg (by omega)]
          refine ih x4_42 y x7_80 T μ (by omega) (by omega) (by omega) ?_ hj hf
          rw [ex7_80, show (w + 1).toNat = w.toNat + 1 by omega]
          show jd1 t (jd t sd w.toNat) = _
          rw [hD]
          show (jdx xx, (if 0 < t 1 then y + jt_y (jdT t (jdx xx) T) (jdx xx % t 1) (t 0).toNat else y), (if 0 < t 1 then jt_come (jdT t (jdx xx) T) (jdx xx % t 1) else jdT t (jdx xx) T)) = _
          rw [← hx, eT]
          rw [if_neg (by omega), if_neg (by omega)]
        · refine jv_iload rfl rfl rfl ?_
          refine jv_aload_n rfl rfl rfl (by decide) ?_
          refine jv_sipush rfl rfl ?_
          refine jv_lload rfl rfl rfl ?_
          refine jv_aload_n rfl rfl rfl (by decide) ?_
          refine jv_getr (w := 95) rfl rfl rfl ⟨by decide, rfl⟩ rfl rfl ?_
          refine jv_iconst rfl rfl ?_
          refine jv_iaload rfl rfl (by decide) rfl ⟨by omega, by omega⟩ ?_
          refine jv_i2l rfl rfl ?_
          refine jv_lrem rfl rfl ⟨by omega, by omega⟩ ?_
          rw [u1μ]
          refine jv_l2i rfl rfl ⟨by omega, by omega⟩ ?_
          have eT : jdT t x4_42 T = T := by unfold jdT; rw [if_neg (by omega)]
          rw [eT] at vT
          have yr := jt_y_r vT.1 (c := (x4_42 % t 1)) (by omega) (by omega) (T 0).toNat (by have := vT.1.1; omega)
          refine jv_callV2 rfl rfl rfl rfl ⟨by decide, rfl⟩ (Nat.le_of_ble_eq_true rfl) (mo_comesT (c := (x4_42 % t 1)) hj (by omega) vT.1 (fun c q0 q1 => by have q := vT.2.2 c q0 q1; omega) (fun μ77 fμ77 tμ77 => ?_))
          show jV _ _ jm_p_X10_drawn _ 78 [some (.inr (.inr 94)), some (.inl n0), some (.inl sd), some (.inl wt), some (.inr (.inl x4_42)), none, some (.inl y), some (.inl w)] [.inl (jt_y T (x4_42 % t 1) (T 0).toNat), .inl y] μ77
          refine jv_iadd rfl rfl ⟨by omega, by omega⟩ ?_
          refine jv_istore (fun x => [some (.inr (.inr 94)), some (.inl n0), some (.inl sd), some (.inl wt), some (.inr (.inl x4_42)), none, some (.inl x), some (.inl w)]) rfl rfl (fun _ => rfl) (fun x6_79 ex6_79 => ?_)
          refine jv_iinc (fun x => [some (.inr (.inr 94)), some (.inl n0), some (.inl sd), some (.inl wt), some (.inr (.inl x4_42)), none, some (.inl x6_79), some (.inl x)]) rfl rfl rfl ⟨by omega, by omega⟩ (fun _ => rfl) (fun x7_80_1 ex7_80_1 => ?_)
          refine jv_goto rfl rfl ?_
          refine ih x4_42 x6_79 x7_80_1 (jt_come T (x4_42 % t 1)) μ77 (by omega) (by omega) (by omega) ?_ tμ77 (jr_tr hf fμ77)
          rw [ex7_80_1, show (w + 1).toNat = w.toNat + 1 by omega]
          show jd1 t (jd t sd w.toNat) = _
          rw [hD]
          show (jdx xx, (if 0 < t 1 then y + jt_y (jdT t (jdx xx) T) (jdx xx % t 1) (t 0).toNat else y), (if 0 < t 1 then jt_come (jdT t (jdx xx) T) (jdx xx % t 1) else jdT t (jdx xx) T)) = _
          rw [← hx, eT]
          rw [if_pos (by omega), if_pos (by omega), ex6_79, vT.2.1.1]
      · refine jv_aload_n rfl rfl rfl (by decide) ?_
        refine jv_sipush rfl rfl ?_
        refine jv_lload rfl rfl rfl ?_
        refine jv_aload_n rfl rfl rfl (by decide) ?_
        refine jv_getr (w := 95) rfl rfl rfl ⟨by decide, rfl⟩ rfl rfl ?_
        refine jv_iconst rfl rfl ?_
        refine jv_iaload rfl rfl (by decide) rfl ⟨by omega, by omega⟩ ?_
        refine jv_i2l rfl rfl ?_
        refine jv_lrem rfl rfl ⟨by omega, by omega⟩ ?_
        rw [u0μ]
        refine jv_l2i rfl rfl ⟨by omega, by omega⟩ ?_
        refine jv_callV2 rfl rfl rfl rfl ⟨by decide, rfl⟩ (Nat.le_of_ble_eq_true rfl) (mo_beatsT hj (by omega) d2 (fun μ59 fμ59 tμ59 => ?_))
        show jV _ _ jm_p_X10_drawn _ 60 [some (.inr (.inr 94)), some (.inl n0), some (.inl sd), some (.inl wt), some (.inr (.inl x4_42)), none, some (.inl y), some (.inl w)] [.inl (jt_lies T (x4_42 % t 0))] μ59
        have hUμ59 := jU_jr fμ59 hUμ
        have u0μ59 := hUμ59 0 (by decide) (by decide)
        have u1μ59 := hUμ59 1 (by decide) (by decide)
        refine jv_pop rfl rfl ?_
        refine jv_aload_n rfl rfl rfl (by decide) ?_
        refine jv_getr (w := 95) rfl rfl rfl ⟨by decide, rfl⟩ rfl rfl ?_
        refine jv_iconst rfl rfl ?_
        refine jv_iaload rfl rfl (by decide) rfl ⟨by omega, by omega⟩ ?_
        refine jv_if_le rfl rfl rfl (fun c65_1 => ?_) (fun c65_1 => ?_)
        · refine jv_iinc (fun x => [some (.inr (.inr 94)), some (.inl n0), some (.inl sd), some (.inl wt), some (.inr (.inl x4_42)), none, some (.inl y), some (.inl x)]) rfl rfl rfl ⟨by omega, by omega⟩ (fun _ => rfl) (fun x7_80_2 ex7_80_2 => ?_)
          refine jv_goto rfl rfl ?_
          have eT : jdT t x4_42 T = (jt_beat T (x4_42 % t 0)) := by unfold jdT; rw [if_pos (by omega)]
          refine ih x4_42 y x7_80_2 (jt_beat T (x4_42 % t 0)) μ59 (by omega) (by omega) (by omega) ?_ tμ59 (jr_tr hf fμ59)
          rw [ex7_80_2, show (w + 1).toNat = w.toNat + 1 by omega]
          show jd1 t (jd t sd w.toNat) = _
          rw [hD]
          show (jdx xx, (if 0 < t 1 then y + jt_y (jdT t (jdx xx) T) (jdx xx % t 1) (t 0).toNat else y), (if 0 < t 1 then jt_come (jdT t (jdx xx) T) (jdx xx % t 1) else jdT t (jdx xx) T)) = _
          rw [← hx, eT]
          rw [if_neg (by omega), if_neg (by omega)]
        · refine jv_iload rfl rfl rfl ?_
          refine jv_aload_n rfl rfl rfl (by decide) ?_
          refine jv_sipush rfl rfl ?_
          refine jv_lload rfl rfl rfl ?_
          refine jv_aload_n rfl rfl rfl (by decide) ?_
          refine jv_getr (w := 95) rfl rfl rfl ⟨by decide, rfl⟩ rfl rfl ?_
          refine jv_iconst rfl rfl ?_
          refine jv_iaload rfl rfl (by decide) rfl ⟨by omega, by omega⟩ ?_
          refine jv_i2l rfl rfl ?_
          refine jv_lrem rfl rfl ⟨by omega, by omega⟩ ?_
          rw [u1μ59]
          refine jv_l2i rfl rfl ⟨by omega, by omega⟩ ?_
          have eT : jdT t x4_42 T = (jt_beat T (x4_42 % t 0)) := by unfold jdT; rw [if_pos (by omega)]
          rw [eT] at vT
          have yr := jt_y_r vT.1 (c := (x4_42 % t 1)) (by omega) (by omega) ((jt_beat T (x4_42 % t 0)) 0).toNat (by have := vT.1.1; omega)
          refine jv_callV2 rfl rfl rfl rfl ⟨by decide, rfl⟩ (Nat.le_of_ble_eq_true rfl) (mo_comesT (c := (x4_42 % t 1)) tμ59 (by omega) vT.1 (fun c q0 q1 => by have q := vT.2.2 c q0 q1; omega) (fun μ77_1 fμ77_1 tμ77_1 => ?_))
          show jV _ _ jm_p_X10_drawn _ 78 [some (.inr (.inr 94)), some (.inl n0), some (.inl sd), some (.inl wt), some (.inr (.inl x4_42)), none, some (.inl y), some (.inl w)] [.inl (jt_y (jt_beat T (x4_42 % t 0)) (x4_42 % t 1) ((jt_beat T (x4_42 % t 0)) 0).toNat), .inl y] μ77_1
          refine jv_iadd rfl rfl ⟨by omega, by omega⟩ ?_
          refine jv_istore (fun x => [some (.inr (.inr 94)), some (.inl n0), some (.inl sd), some (.inl wt), some (.inr (.inl x4_42)), none, some (.inl x), some (.inl w)]) rfl rfl (fun _ => rfl) (fun x6_79_1 ex6_79_1 => ?_)
          refine jv_iinc (fun x => [some (.inr (.inr 94)), some (.inl n0), some (.inl sd), some (.inl wt), some (.inr (.inl x4_42)), none, some (.inl x6_79_1), some (.inl x)]) rfl rfl rfl ⟨by omega, by omega⟩ (fun _ => rfl) (fun x7_80_3 ex7_80_3 => ?_)
          refine jv_goto rfl rfl ?_
          refine ih x4_42 x6_79_1 x7_80_3 (jt_come (jt_beat T (x4_42 % t 0)) (x4_42 % t 1)) μ77_1 (by omega) (by omega) (by omega) ?_ tμ77_1 (jr_tr (jr_tr hf fμ59) fμ77_1)
          rw [ex7_80_3, show (w + 1).toNat = w.toNat + 1 by omega]
          show jd1 t (jd t sd w.toNat) = _
          rw [hD]
          show (jdx xx, (if 0 < t 1 then y + jt_y (jdT t (jdx xx) T) (jdx xx % t 1) (t 0).toNat else y), (if 0 < t 1 then jt_come (jdT t (jdx xx) T) (jdx xx % t 1) else jdT t (jdx xx) T)) = _
          rw [← hx, eT]
          rw [if_pos (by omega), if_pos (by omega), ex6_79_1, vT.2.1.1]
set_option maxRecDepth 10000 in
set_option maxHeartbeats 1000000 in
theorem pr_drawn {X : jm_X} {n : Int} {sd : Int} {y : Int} (r_n : jm_r n) (r_sd : jm_r sd) (r_y : jm_r y) : jp X 115 203 [.inl n, .inl sd, .inl y] := by
  intro μ hI
  obtain ⟨⟨hit, hlan⟩, ⟨ht0, ht1, ht2⟩, ⟨hr0, hr1, hr2⟩, ⟨hst, hfa⟩, htown, hidle, himg, hpast⟩ := id hI
  obtain ⟨hwf, hcf, hkd, hmat, hrel, hh01, hhot, hnc⟩ := id htown
  obtain ⟨⟨r0, r1, r2, r3⟩, rm, rz, rc⟩ := id hrel
  obtain ⟨w0, w1, w2, w3, w4, w6, w7, w8⟩ := id hwf
  have hcf9 : jt_cf (μ 95) 99990 := fun c a b => by have q := hcf c a b; omega
  have hHμ := jH_of hI
  have hsh : jm_shl 1 (μ 7 3) = jm_shl 1 (μ 95 1) := by rw [r3]
  have hs6 := jb_shl6 w1.1 w1.2
  have hs4 := jb_shl4 w0.1 w0.2
  refine jv_enter (d := 199) jm_p_X9_drawn [some (.inr (.inr 0)), some (.inl n), some (.inl sd), some (.inl y)] rfl rfl rfl (Nat.le_of_ble_eq_true rfl) rfl rfl ?_
  refine jv_aload_n rfl rfl rfl (by decide) ?_
  refine jv_callV0 rfl rfl rfl rfl ⟨by decide, rfl⟩ (Nat.le_of_ble_eq_true rfl) (cl_noHotel (fun b1 => ?_) (fun b1 => ?_))
  · show jV _ _ jm_p_X9_drawn _ 2 [some (.inr (.inr 0)), some (.inl n), some (.inl sd), some (.inl y)] [.inl 1] μ
    refine jv_if_eqF rfl rfl (by decide) ?_
    refine jv_ldc rfl rfl ?_
    refine jv_ireturn rfl (Or.inl rfl) ?_
    refine ⟨_, rfl, ?_⟩
    have fc : jf μ μ := jf_id μ
    have hUμ : jU μ (μ 95) := jU_jf fc
    have q94μ : μ 94 1 = μ 94 1 := by rw [fc 94 (by omega)]
    refine jv_enter (d := 199) jm_p_X10_drawn [some (.inr (.inr 94)), some (.inl n), some (.inl sd), some (.inl y), none, none, none, none] rfl rfl rfl (Nat.le_of_ble_eq_true rfl) rfl rfl ?_
    refine jv_aload_n rfl rfl rfl (by decide) ?_
    refine jv_geti rfl rfl rfl ⟨by decide, rfl⟩ (by decide) ?_
    refine jv_if_ne rfl rfl rfl (fun c2 => ?_) (fun c2 => ?_)
    · first
      | (exfalso; omega)
      | skip
        refine jv_iload_n rfl rfl rfl ?_
        refine jv_i2l rfl rfl ?_
        refine jv_lconst rfl rfl ?_
        refine jv_ldc2_w rfl rfl ?_
        refine jv_callS3 rfl rfl rfl (Nat.le_of_ble_eq_true rfl) (mo_in (fun b9 => ?_) (fun b9 => ?_))
        · first
          | (exfalso; omega)
          | skip
            show jV _ _ jm_p_X10_drawn _ 10 [some (.inr (.inr 94)), some (.inl n), some (.inl sd), some (.inl y), none, none, none, none] [.inl 1] μ
            refine jv_if_eqF rfl rfl (by decide) ?_
            refine jv_iload_n rfl rfl rfl ?_
            refine jv_i2l rfl rfl ?_
            refine jv_lconst rfl rfl ?_
            refine jv_ldc2_w rfl rfl ?_
            refine jv_callS3 rfl rfl rfl (Nat.le_of_ble_eq_true rfl) (mo_in (fun b15 => ?_) (fun b15 => ?_))
            · first
              | (exfalso; omega)
              | skip
                show jV _ _ jm_p_X10_drawn _ 16 [some (.inr (.inr 94)), some (.inl n), some (.inl sd), some (.inl y), none, none, none, none] [.inl 1] μ
                refine jv_if_eqF rfl rfl (by decide) ?_
                refine jv_iload_n rfl rfl rfl ?_
                refine jv_i2l rfl rfl ?_
                refine jv_lconst rfl rfl ?_
                refine jv_lconst rfl rfl ?_
                refine jv_callS3 rfl rfl rfl (Nat.le_of_ble_eq_true rfl) (mo_in (fun b21 => ?_) (fun b21 => ?_))
                · first
                  | (exfalso; omega)
                  | skip
                    show jV _ _ jm_p_X10_drawn _ 22 [some (.inr (.inr 94)), some (.inl n), some (.inl sd), some (.inl y), none, none, none, none] [.inl 1] μ
                    refine jv_if_neT rfl rfl (by decide) ?_
                    refine jv_aload_n rfl rfl rfl (by decide) ?_
                    refine jv_callV0 rfl rfl rfl rfl ⟨by decide, rfl⟩ (Nat.le_of_ble_eq_true rfl) (mo_layTried hUμ (fun ν26 fν26 tν26 => ?_))
                    show jV _ _ jm_p_X10_drawn _ 27 [some (.inr (.inr 94)), some (.inl n), some (.inl sd), some (.inl y), none, none, none, none] [] ν26
                    have hUν26 := jU_jr fν26 hUμ
                    have u0ν26 := hUν26 0 (by decide) (by decide)
                    have u1ν26 := hUν26 1 (by decide) (by decide)
                    refine jv_iload_n rfl rfl rfl ?_
                    refine jv_i2l rfl rfl ?_
                    refine jv_lstore (fun x => [some (.inr (.inr 94)), some (.inl n), some (.inl sd), some (.inl y), some (.inr (.inl x)), none, none, none]) rfl rfl (fun _ => rfl) (fun x4_29 ex4_29 => ?_)
                    refine jv_iconst rfl rfl ?_
                    refine jv_istoreK (L2 := [some (.inr (.inr 94)), some (.inl n), some (.inl sd), some (.inl y), some (.inr (.inl x4_29)), none, some (.inl 0), none]) rfl rfl rfl ?_
                    refine jv_iconst rfl rfl ?_
                    refine jv_istoreK (L2 := [some (.inr (.inr 94)), some (.inl n), some (.inl sd), some (.inl y), some (.inr (.inl x4_29)), none, some (.inl 0), some (.inl 0)]) rfl rfl rfl ?_
                    exfalso; omega
                · first
                  | (exfalso; omega)
                  | skip
                    show jV _ _ jm_p_X10_drawn _ 22 [some (.inr (.inr 94)), some (.inl n), some (.inl sd), some (.inl y), none, none, none, none] [.inl 0] μ
                    refine jv_if_neF rfl rfl (by decide) ?_
                    refine jv_ldc rfl rfl ?_
                    refine jv_ireturn rfl (Or.inl rfl) ?_
                    exact ⟨jv_one (by omega), jI_pair hI fc (jr_id _)⟩
            · first
              | (exfalso; omega)
              | skip
                show jV _ _ jm_p_X10_drawn _ 16 [some (.inr (.inr 94)), some (.inl n), some (.inl sd), some (.inl y), none, none, none, none] [.inl 0] μ
                refine jv_if_eqT rfl rfl (by decide) ?_
                refine jv_ldc rfl rfl ?_
                refine jv_ireturn rfl (Or.inl rfl) ?_
                exact ⟨jv_one (by omega), jI_pair hI fc (jr_id _)⟩
        · first
          | (exfalso; omega)
          | skip
            show jV _ _ jm_p_X10_drawn _ 10 [some (.inr (.inr 94)), some (.inl n), some (.inl sd), some (.inl y), none, none, none, none] [.inl 0] μ
            refine jv_if_eqT rfl rfl (by decide) ?_
            refine jv_ldc rfl rfl ?_
            refine jv_ireturn rfl (Or.inl rfl) ?_
            exact ⟨jv_one (by omega), jI_pair hI fc (jr_id _)⟩
    · first
      | (exfalso; omega)
      | skip
        refine jv_ldc rfl rfl ?_
        refine jv_ireturn rfl (Or.inl rfl) ?_
        exact ⟨jv_one (by omega), jI_pair hI fc (jr_id _)⟩
  · show jV _ _ jm_p_X9_drawn _ 2 [some (.inr (.inr 0)), some (.inl n), some (.inl sd), some (.inl y)] [.inl 0] μ
    refine jv_if_eqT rfl rfl (by decide) ?_
    refine jv_iload_n rfl rfl rfl ?_
    refine jv_if_lt rfl rfl rfl (fun c6 => ?_) (fun c6 => ?_)
    · refine jv_ldc rfl rfl ?_
      refine jv_ireturn rfl (Or.inl rfl) ?_
      refine ⟨_, rfl, ?_⟩
      have fc : jf μ μ := jf_id μ
      have hUμ : jU μ (μ 95) := jU_jf fc
      have q94μ : μ 94 1 = μ 94 1 := by rw [fc 94 (by omega)]
      refine jv_enter (d := 199) jm_p_X10_drawn [some (.inr (.inr 94)), some (.inl n), some (.inl sd), some (.inl y), none, none, none, none] rfl rfl rfl (Nat.le_of_ble_eq_true rfl) rfl rfl ?_
      refine jv_aload_n rfl rfl rfl (by decide) ?_
      refine jv_geti rfl rfl rfl ⟨by decide, rfl⟩ (by decide) ?_
      refine jv_if_ne rfl rfl rfl (fun c2 => ?_) (fun c2 => ?_)
      · first
        | (exfalso; omega)
        | skip
          refine jv_iload_n rfl rfl rfl ?_
          refine jv_i2l rfl rfl ?_
          refine jv_lconst rfl rfl ?_
          refine jv_ldc2_w rfl rfl ?_
          refine jv_callS3 rfl rfl rfl (Nat.le_of_ble_eq_true rfl) (mo_in (fun b9 => ?_) (fun b9 => ?_))
          · first
            | (exfalso; omega)
            | skip
              show jV _ _ jm_p_X10_drawn _ 10 [some (.inr (.inr 94)), some (.inl n), some (.inl sd), some (.inl y), none, none, none, none] [.inl 1] μ
              refine jv_if_eqF rfl rfl (by decide) ?_
              refine jv_iload_n rfl rfl rfl ?_
              refine jv_i2l rfl rfl ?_
              refine jv_lconst rfl rfl ?_
              refine jv_ldc2_w rfl rfl ?_
              refine jv_callS3 rfl rfl rfl (Nat.le_of_ble_eq_true rfl) (mo_in (fun b15 => ?_) (fun b15 => ?_))
              · first
                | (exfalso; omega)
                | skip
                  show jV _ _ jm_p_X10_drawn _ 16 [some (.inr (.inr 94)), some (.inl n), some (.inl sd), some (.inl y), none, none, none, none] [.inl 1] μ
                  refine jv_if_eqF rfl rfl (by decide) ?_
                  refine jv_iload_n rfl rfl rfl ?_
                  refine jv_i2l rfl rfl ?_
                  refine jv_lconst rfl rfl ?_
                  refine jv_lconst rfl rfl ?_
                  refine jv_callS3 rfl rfl rfl (Nat.le_of_ble_eq_true rfl) (mo_in (fun b21 => ?_) (fun b21 => ?_))
                  · first
                    | (exfalso; omega)
                    | skip
                      show jV _ _ jm_p_X10_drawn _ 22 [some (.inr (.inr 94)), some (.inl n), some (.inl sd), some (.inl y), none, none, none, none] [.inl 1] μ
                      refine jv_if_neT rfl rfl (by decide) ?_
                      refine jv_aload_n rfl rfl rfl (by decide) ?_
                      refine jv_callV0 rfl rfl rfl rfl ⟨by decide, rfl⟩ (Nat.le_of_ble_eq_true rfl) (mo_layTried hUμ (fun ν26 fν26 tν26 => ?_))
                      show jV _ _ jm_p_X10_drawn _ 27 [some (.inr (.inr 94)), some (.inl n), some (.inl sd), some (.inl y), none, none, none, none] [] ν26
                      have hUν26 := jU_jr fν26 hUμ
                      have u0ν26 := hUν26 0 (by decide) (by decide)
                      have u1ν26 := hUν26 1 (by decide) (by decide)
                      refine jv_iload_n rfl rfl rfl ?_
                      refine jv_i2l rfl rfl ?_
                      refine jv_lstore (fun x => [some (.inr (.inr 94)), some (.inl n), some (.inl sd), some (.inl y), some (.inr (.inl x)), none, none, none]) rfl rfl (fun _ => rfl) (fun x4_29 ex4_29 => ?_)
                      refine jv_iconst rfl rfl ?_
                      refine jv_istoreK (L2 := [some (.inr (.inr 94)), some (.inl n), some (.inl sd), some (.inl y), some (.inr (.inl x4_29)), none, some (.inl 0), none]) rfl rfl rfl ?_
                      refine jv_iconst rfl rfl ?_
                      refine jv_istoreK (L2 := [some (.inr (.inr 94)), some (.inl n), some (.inl sd), some (.inl y), some (.inr (.inl x4_29)), none, some (.inl 0), some (.inl 0)]) rfl rfl rfl ?_
                      exfalso; omega
                  · first
                    | (exfalso; omega)
                    | skip
                      show jV _ _ jm_p_X10_drawn _ 22 [some (.inr (.inr 94)), some (.inl n), some (.inl sd), some (.inl y), none, none, none, none] [.inl 0] μ
                      refine jv_if_neF rfl rfl (by decide) ?_
                      refine jv_ldc rfl rfl ?_
                      refine jv_ireturn rfl (Or.inl rfl) ?_
                      exact ⟨jv_one (by omega), jI_pair hI fc (jr_id _)⟩
              · first
                | (exfalso; omega)
                | skip
                  show jV _ _ jm_p_X10_drawn _ 16 [some (.inr (.inr 94)), some (.inl n), some (.inl sd), some (.inl y), none, none, none, none] [.inl 0] μ
                  refine jv_if_eqT rfl rfl (by decide) ?_
                  refine jv_ldc rfl rfl ?_
                  refine jv_ireturn rfl (Or.inl rfl) ?_
                  exact ⟨jv_one (by omega), jI_pair hI fc (jr_id _)⟩
          · first
            | (exfalso; omega)
            | skip
              show jV _ _ jm_p_X10_drawn _ 10 [some (.inr (.inr 94)), some (.inl n), some (.inl sd), some (.inl y), none, none, none, none] [.inl 0] μ
              refine jv_if_eqT rfl rfl (by decide) ?_
              refine jv_ldc rfl rfl ?_
              refine jv_ireturn rfl (Or.inl rfl) ?_
              exact ⟨jv_one (by omega), jI_pair hI fc (jr_id _)⟩
      · first
        | (exfalso; omega)
        | skip
          refine jv_ldc rfl rfl ?_
          refine jv_ireturn rfl (Or.inl rfl) ?_
          exact ⟨jv_one (by omega), jI_pair hI fc (jr_id _)⟩
    · refine jv_iload_n rfl rfl rfl ?_
      refine jv_bipush rfl rfl ?_
      refine jv_icmp_gt rfl rfl rfl (fun c9 => ?_) (fun c9 => ?_)
      · refine jv_ldc rfl rfl ?_
        refine jv_ireturn rfl (Or.inl rfl) ?_
        refine ⟨_, rfl, ?_⟩
        have fc : jf μ μ := jf_id μ
        have hUμ : jU μ (μ 95) := jU_jf fc
        have q94μ : μ 94 1 = μ 94 1 := by rw [fc 94 (by omega)]
        refine jv_enter (d := 199) jm_p_X10_drawn [some (.inr (.inr 94)), some (.inl n), some (.inl sd), some (.inl y), none, none, none, none] rfl rfl rfl (Nat.le_of_ble_eq_true rfl) rfl rfl ?_
        refine jv_aload_n rfl rfl rfl (by decide) ?_
        refine jv_geti rfl rfl rfl ⟨by decide, rfl⟩ (by decide) ?_
        refine jv_if_ne rfl rfl rfl (fun c2 => ?_) (fun c2 => ?_)
        · first
          | (exfalso; omega)
          | skip
            refine jv_iload_n rfl rfl rfl ?_
            refine jv_i2l rfl rfl ?_
            refine jv_lconst rfl rfl ?_
            refine jv_ldc2_w rfl rfl ?_
            refine jv_callS3 rfl rfl rfl (Nat.le_of_ble_eq_true rfl) (mo_in (fun b9 => ?_) (fun b9 => ?_))
            · first
              | (exfalso; omega)
              | skip
                show jV _ _ jm_p_X10_drawn _ 10 [some (.inr (.inr 94)), some (.inl n), some (.inl sd), some (.inl y), none, none, none, none] [.inl 1] μ
                refine jv_if_eqF rfl rfl (by decide) ?_
                refine jv_iload_n rfl rfl rfl ?_
                refine jv_i2l rfl rfl ?_
                refine jv_lconst rfl rfl ?_
                refine jv_ldc2_w rfl rfl ?_
                refine jv_callS3 rfl rfl rfl (Nat.le_of_ble_eq_true rfl) (mo_in (fun b15 => ?_) (fun b15 => ?_))
                · first
                  | (exfalso; omega)
                  | skip
                    show jV _ _ jm_p_X10_drawn _ 16 [some (.inr (.inr 94)), some (.inl n), some (.inl sd), some (.inl y), none, none, none, none] [.inl 1] μ
                    refine jv_if_eqF rfl rfl (by decide) ?_
                    refine jv_iload_n rfl rfl rfl ?_
                    refine jv_i2l rfl rfl ?_
                    refine jv_lconst rfl rfl ?_
                    refine jv_lconst rfl rfl ?_
                    refine jv_callS3 rfl rfl rfl (Nat.le_of_ble_eq_true rfl) (mo_in (fun b21 => ?_) (fun b21 => ?_))
                    · first
                      | (exfalso; omega)
                      | skip
                        show jV _ _ jm_p_X10_drawn _ 22 [some (.inr (.inr 94)), some (.inl n), some (.inl sd), some (.inl y), none, none, none, none] [.inl 1] μ
                        refine jv_if_neT rfl rfl (by decide) ?_
                        refine jv_aload_n rfl rfl rfl (by decide) ?_
                        refine jv_callV0 rfl rfl rfl rfl ⟨by decide, rfl⟩ (Nat.le_of_ble_eq_true rfl) (mo_layTried hUμ (fun ν26 fν26 tν26 => ?_))
                        show jV _ _ jm_p_X10_drawn _ 27 [some (.inr (.inr 94)), some (.inl n), some (.inl sd), some (.inl y), none, none, none, none] [] ν26
                        have hUν26 := jU_jr fν26 hUμ
                        have u0ν26 := hUν26 0 (by decide) (by decide)
                        have u1ν26 := hUν26 1 (by decide) (by decide)
                        refine jv_iload_n rfl rfl rfl ?_
                        refine jv_i2l rfl rfl ?_
                        refine jv_lstore (fun x => [some (.inr (.inr 94)), some (.inl n), some (.inl sd), some (.inl y), some (.inr (.inl x)), none, none, none]) rfl rfl (fun _ => rfl) (fun x4_29 ex4_29 => ?_)
                        refine jv_iconst rfl rfl ?_
                        refine jv_istoreK (L2 := [some (.inr (.inr 94)), some (.inl n), some (.inl sd), some (.inl y), some (.inr (.inl x4_29)), none, some (.inl 0), none]) rfl rfl rfl ?_
                        refine jv_iconst rfl rfl ?_
                        refine jv_istoreK (L2 := [some (.inr (.inr 94)), some (.inl n), some (.inl sd), some (.inl y), some (.inr (.inl x4_29)), none, some (.inl 0), some (.inl 0)]) rfl rfl rfl ?_
                        exfalso; omega
                    · first
                      | (exfalso; omega)
                      | skip
                        show jV _ _ jm_p_X10_drawn _ 22 [some (.inr (.inr 94)), some (.inl n), some (.inl sd), some (.inl y), none, none, none, none] [.inl 0] μ
                        refine jv_if_neF rfl rfl (by decide) ?_
                        refine jv_ldc rfl rfl ?_
                        refine jv_ireturn rfl (Or.inl rfl) ?_
                        exact ⟨jv_one (by omega), jI_pair hI fc (jr_id _)⟩
                · first
                  | (exfalso; omega)
                  | skip
                    show jV _ _ jm_p_X10_drawn _ 16 [some (.inr (.inr 94)), some (.inl n), some (.inl sd), some (.inl y), none, none, none, none] [.inl 0] μ
                    refine jv_if_eqT rfl rfl (by decide) ?_
                    refine jv_ldc rfl rfl ?_
                    refine jv_ireturn rfl (Or.inl rfl) ?_
                    exact ⟨jv_one (by omega), jI_pair hI fc (jr_id _)⟩
            · first
              | (exfalso; omega)
              | skip
                show jV _ _ jm_p_X10_drawn _ 10 [some (.inr (.inr 94)), some (.inl n), some (.inl sd), some (.inl y), none, none, none, none] [.inl 0] μ
                refine jv_if_eqT rfl rfl (by decide) ?_
                refine jv_ldc rfl rfl ?_
                refine jv_ireturn rfl (Or.inl rfl) ?_
                exact ⟨jv_one (by omega), jI_pair hI fc (jr_id _)⟩
        · first
          | (exfalso; omega)
          | skip
            refine jv_ldc rfl rfl ?_
            refine jv_ireturn rfl (Or.inl rfl) ?_
            exact ⟨jv_one (by omega), jI_pair hI fc (jr_id _)⟩
      · refine jv_iload_n rfl rfl rfl ?_
        refine jv_iconst rfl rfl ?_
        refine jv_icmp_lt rfl rfl rfl (fun c12 => ?_) (fun c12 => ?_)
        · refine jv_ldc rfl rfl ?_
          refine jv_ireturn rfl (Or.inl rfl) ?_
          refine ⟨_, rfl, ?_⟩
          have fc : jf μ μ := jf_id μ
          have hUμ : jU μ (μ 95) := jU_jf fc
          have q94μ : μ 94 1 = μ 94 1 := by rw [fc 94 (by omega)]
          refine jv_enter (d := 199) jm_p_X10_drawn [some (.inr (.inr 94)), some (.inl n), some (.inl sd), some (.inl y), none, none, none, none] rfl rfl rfl (Nat.le_of_ble_eq_true rfl) rfl rfl ?_
          refine jv_aload_n rfl rfl rfl (by decide) ?_
          refine jv_geti rfl rfl rfl ⟨by decide, rfl⟩ (by decide) ?_
          refine jv_if_ne rfl rfl rfl (fun c2 => ?_) (fun c2 => ?_)
          · first
            | (exfalso; omega)
            | skip
              refine jv_iload_n rfl rfl rfl ?_
              refine jv_i2l rfl rfl ?_
              refine jv_lconst rfl rfl ?_
              refine jv_ldc2_w rfl rfl ?_
              refine jv_callS3 rfl rfl rfl (Nat.le_of_ble_eq_true rfl) (mo_in (fun b9 => ?_) (fun b9 => ?_))
              · first
                | (exfalso; omega)
                | skip
                  show jV _ _ jm_p_X10_drawn _ 10 [some (.inr (.inr 94)), some (.inl n), some (.inl sd), some (.inl y), none, none, none, none] [.inl 1] μ
                  refine jv_if_eqF rfl rfl (by decide) ?_
                  refine jv_iload_n rfl rfl rfl ?_
                  refine jv_i2l rfl rfl ?_
                  refine jv_lconst rfl rfl ?_
                  refine jv_ldc2_w rfl rfl ?_
                  refine jv_callS3 rfl rfl rfl (Nat.le_of_ble_eq_true rfl) (mo_in (fun b15 => ?_) (fun b15 => ?_))
                  · first
                    | (exfalso; omega)
                    | skip
                      show jV _ _ jm_p_X10_drawn _ 16 [some (.inr (.inr 94)), some (.inl n), some (.inl sd), some (.inl y), none, none, none, none] [.inl 1] μ
                      refine jv_if_eqF rfl rfl (by decide) ?_
                      refine jv_iload_n rfl rfl rfl ?_
                      refine jv_i2l rfl rfl ?_
                      refine jv_lconst rfl rfl ?_
                      refine jv_lconst rfl rfl ?_
                      refine jv_callS3 rfl rfl rfl (Nat.le_of_ble_eq_true rfl) (mo_in (fun b21 => ?_) (fun b21 => ?_))
                      · first
                        | (exfalso; omega)
                        | skip
                          show jV _ _ jm_p_X10_drawn _ 22 [some (.inr (.inr 94)), some (.inl n), some (.inl sd), some (.inl y), none, none, none, none] [.inl 1] μ
                          refine jv_if_neT rfl rfl (by decide) ?_
                          refine jv_aload_n rfl rfl rfl (by decide) ?_
                          refine jv_callV0 rfl rfl rfl rfl ⟨by decide, rfl⟩ (Nat.le_of_ble_eq_true rfl) (mo_layTried hUμ (fun ν26 fν26 tν26 => ?_))
                          show jV _ _ jm_p_X10_drawn _ 27 [some (.inr (.inr 94)), some (.inl n), some (.inl sd), some (.inl y), none, none, none, none] [] ν26
                          have hUν26 := jU_jr fν26 hUμ
                          have u0ν26 := hUν26 0 (by decide) (by decide)
                          have u1ν26 := hUν26 1 (by decide) (by decide)
                          refine jv_iload_n rfl rfl rfl ?_
                          refine jv_i2l rfl rfl ?_
                          refine jv_lstore (fun x => [some (.inr (.inr 94)), some (.inl n), some (.inl sd), some (.inl y), some (.inr (.inl x)), none, none, none]) rfl rfl (fun _ => rfl) (fun x4_29 ex4_29 => ?_)
                          refine jv_iconst rfl rfl ?_
                          refine jv_istoreK (L2 := [some (.inr (.inr 94)), some (.inl n), some (.inl sd), some (.inl y), some (.inr (.inl x4_29)), none, some (.inl 0), none]) rfl rfl rfl ?_
                          refine jv_iconst rfl rfl ?_
                          refine jv_istoreK (L2 := [some (.inr (.inr 94)), some (.inl n), some (.inl sd), some (.inl y), some (.inr (.inl x4_29)), none, some (.inl 0), some (.inl 0)]) rfl rfl rfl ?_
                          exfalso; omega
                      · first
                        | (exfalso; omega)
                        | skip
                          show jV _ _ jm_p_X10_drawn _ 22 [some (.inr (.inr 94)), some (.inl n), some (.inl sd), some (.inl y), none, none, none, none] [.inl 0] μ
                          refine jv_if_neF rfl rfl (by decide) ?_
                          refine jv_ldc rfl rfl ?_
                          refine jv_ireturn rfl (Or.inl rfl) ?_
                          exact ⟨jv_one (by omega), jI_pair hI fc (jr_id _)⟩
                  · first
                    | (exfalso; omega)
                    | skip
                      show jV _ _ jm_p_X10_drawn _ 16 [some (.inr (.inr 94)), some (.inl n), some (.inl sd), some (.inl y), none, none, none, none] [.inl 0] μ
                      refine jv_if_eqT rfl rfl (by decide) ?_
                      refine jv_ldc rfl rfl ?_
                      refine jv_ireturn rfl (Or.inl rfl) ?_
                      exact ⟨jv_one (by omega), jI_pair hI fc (jr_id _)⟩
              · first
                | (exfalso; omega)
                | skip
                  show jV _ _ jm_p_X10_drawn _ 10 [some (.inr (.inr 94)), some (.inl n), some (.inl sd), some (.inl y), none, none, none, none] [.inl 0] μ
                  refine jv_if_eqT rfl rfl (by decide) ?_
                  refine jv_ldc rfl rfl ?_
                  refine jv_ireturn rfl (Or.inl rfl) ?_
                  exact ⟨jv_one (by omega), jI_pair hI fc (jr_id _)⟩
          · first
            | (exfalso; omega)
            | skip
              refine jv_ldc rfl rfl ?_
              refine jv_ireturn rfl (Or.inl rfl) ?_
              exact ⟨jv_one (by omega), jI_pair hI fc (jr_id _)⟩
        · refine jv_iload_n rfl rfl rfl ?_
          refine jv_ldc_w rfl rfl ?_
          refine jv_icmp_gt rfl rfl rfl (fun c15 => ?_) (fun c15 => ?_)
          · refine jv_ldc rfl rfl ?_
            refine jv_ireturn rfl (Or.inl rfl) ?_
            refine ⟨_, rfl, ?_⟩
            have fc : jf μ μ := jf_id μ
            have hUμ : jU μ (μ 95) := jU_jf fc
            have q94μ : μ 94 1 = μ 94 1 := by rw [fc 94 (by omega)]
            refine jv_enter (d := 199) jm_p_X10_drawn [some (.inr (.inr 94)), some (.inl n), some (.inl sd), some (.inl y), none, none, none, none] rfl rfl rfl (Nat.le_of_ble_eq_true rfl) rfl rfl ?_
            refine jv_aload_n rfl rfl rfl (by decide) ?_
            refine jv_geti rfl rfl rfl ⟨by decide, rfl⟩ (by decide) ?_
            refine jv_if_ne rfl rfl rfl (fun c2 => ?_) (fun c2 => ?_)
            · first
              | (exfalso; omega)
              | skip
                refine jv_iload_n rfl rfl rfl ?_
                refine jv_i2l rfl rfl ?_
                refine jv_lconst rfl rfl ?_
                refine jv_ldc2_w rfl rfl ?_
                refine jv_callS3 rfl rfl rfl (Nat.le_of_ble_eq_true rfl) (mo_in (fun b9 => ?_) (fun b9 => ?_))
                · first
                  | (exfalso; omega)
                  | skip
                    show jV _ _ jm_p_X10_drawn _ 10 [some (.inr (.inr 94)), some (.inl n), some (.inl sd), some (.inl y), none, none, none, none] [.inl 1] μ
                    refine jv_if_eqF rfl rfl (by decide) ?_
                    refine jv_iload_n rfl rfl rfl ?_
                    refine jv_i2l rfl rfl ?_
                    refine jv_lconst rfl rfl ?_
                    refine jv_ldc2_w rfl rfl ?_
                    refine jv_callS3 rfl rfl rfl (Nat.le_of_ble_eq_true rfl) (mo_in (fun b15 => ?_) (fun b15 => ?_))
                    · first
                      | (exfalso; omega)
                      | skip
                        show jV _ _ jm_p_X10_drawn _ 16 [some (.inr (.inr 94)), some (.inl n), some (.inl sd), some (.inl y), none, none, none, none] [.inl 1] μ
                        refine jv_if_eqF rfl rfl (by decide) ?_
                        refine jv_iload_n rfl rfl rfl ?_
                        refine jv_i2l rfl rfl ?_
                        refine jv_lconst rfl rfl ?_
                        refine jv_lconst rfl rfl ?_
                        refine jv_callS3 rfl rfl rfl (Nat.le_of_ble_eq_true rfl) (mo_in (fun b21 => ?_) (fun b21 => ?_))
                        · first
                          | (exfalso; omega)
                          | skip
                            show jV _ _ jm_p_X10_drawn _ 22 [some (.inr (.inr 94)), some (.inl n), some (.inl sd), some (.inl y), none, none, none, none] [.inl 1] μ
                            refine jv_if_neT rfl rfl (by decide) ?_
                            refine jv_aload_n rfl rfl rfl (by decide) ?_
                            refine jv_callV0 rfl rfl rfl rfl ⟨by decide, rfl⟩ (Nat.le_of_ble_eq_true rfl) (mo_layTried hUμ (fun ν26 fν26 tν26 => ?_))
                            show jV _ _ jm_p_X10_drawn _ 27 [some (.inr (.inr 94)), some (.inl n), some (.inl sd), some (.inl y), none, none, none, none] [] ν26
                            have hUν26 := jU_jr fν26 hUμ
                            have u0ν26 := hUν26 0 (by decide) (by decide)
                            have u1ν26 := hUν26 1 (by decide) (by decide)
                            refine jv_iload_n rfl rfl rfl ?_
                            refine jv_i2l rfl rfl ?_
                            refine jv_lstore (fun x => [some (.inr (.inr 94)), some (.inl n), some (.inl sd), some (.inl y), some (.inr (.inl x)), none, none, none]) rfl rfl (fun _ => rfl) (fun x4_29 ex4_29 => ?_)
                            refine jv_iconst rfl rfl ?_
                            refine jv_istoreK (L2 := [some (.inr (.inr 94)), some (.inl n), some (.inl sd), some (.inl y), some (.inr (.inl x4_29)), none, some (.inl 0), none]) rfl rfl rfl ?_
                            refine jv_iconst rfl rfl ?_
                            refine jv_istoreK (L2 := [some (.inr (.inr 94)), some (.inl n), some (.inl sd), some (.inl y), some (.inr (.inl x4_29)), none, some (.inl 0), some (.inl 0)]) rfl rfl rfl ?_
                            exfalso; omega
                        · first
                          | (exfalso; omega)
                          | skip
                            show jV _ _ jm_p_X10_drawn _ 22 [some (.inr (.inr 94)), some (.inl n), some (.inl sd), some (.inl y), none, none, none, none] [.inl 0] μ
                            refine jv_if_neF rfl rfl (by decide) ?_
                            refine jv_ldc rfl rfl ?_
                            refine jv_ireturn rfl (Or.inl rfl) ?_
                            exact ⟨jv_one (by omega), jI_pair hI fc (jr_id _)⟩
                    · first
                      | (exfalso; omega)
                      | skip
                        show jV _ _ jm_p_X10_drawn _ 16 [some (.inr (.inr 94)), some (.inl n), some (.inl sd), some (.inl y), none, none, none, none] [.inl 0] μ
                        refine jv_if_eqT rfl rfl (by decide) ?_
                        refine jv_ldc rfl rfl ?_
                        refine jv_ireturn rfl (Or.inl rfl) ?_
                        exact ⟨jv_one (by omega), jI_pair hI fc (jr_id _)⟩
                · first
                  | (exfalso; omega)
                  | skip
                    show jV _ _ jm_p_X10_drawn _ 10 [some (.inr (.inr 94)), some (.inl n), some (.inl sd), some (.inl y), none, none, none, none] [.inl 0] μ
                    refine jv_if_eqT rfl rfl (by decide) ?_
                    refine jv_ldc rfl rfl ?_
                    refine jv_ireturn rfl (Or.inl rfl) ?_
                    exact ⟨jv_one (by omega), jI_pair hI fc (jr_id _)⟩
            · first
              | (exfalso; omega)
              | skip
                refine jv_ldc rfl rfl ?_
                refine jv_ireturn rfl (Or.inl rfl) ?_
                exact ⟨jv_one (by omega), jI_pair hI fc (jr_id _)⟩
          · refine jv_iload_n rfl rfl rfl ?_
            refine jv_callS1 rfl rfl rfl (Nat.le_of_ble_eq_true rfl) (cl_neither (fun b17 => ?_) (fun b17 => ?_))
            · show jV _ _ jm_p_X9_drawn _ 18 [some (.inr (.inr 0)), some (.inl n), some (.inl sd), some (.inl y)] [.inl 1] μ
              refine jv_if_eqF rfl rfl (by decide) ?_
              refine jv_ldc rfl rfl ?_
              refine jv_ireturn rfl (Or.inl rfl) ?_
              refine ⟨_, rfl, ?_⟩
              have fc : jf μ μ := jf_id μ
              have hUμ : jU μ (μ 95) := jU_jf fc
              have q94μ : μ 94 1 = μ 94 1 := by rw [fc 94 (by omega)]
              refine jv_enter (d := 199) jm_p_X10_drawn [some (.inr (.inr 94)), some (.inl n), some (.inl sd), some (.inl y), none, none, none, none] rfl rfl rfl (Nat.le_of_ble_eq_true rfl) rfl rfl ?_
              refine jv_aload_n rfl rfl rfl (by decide) ?_
              refine jv_geti rfl rfl rfl ⟨by decide, rfl⟩ (by decide) ?_
              refine jv_if_ne rfl rfl rfl (fun c2 => ?_) (fun c2 => ?_)
              · first
                | (exfalso; omega)
                | skip
                  refine jv_iload_n rfl rfl rfl ?_
                  refine jv_i2l rfl rfl ?_
                  refine jv_lconst rfl rfl ?_
                  refine jv_ldc2_w rfl rfl ?_
                  refine jv_callS3 rfl rfl rfl (Nat.le_of_ble_eq_true rfl) (mo_in (fun b9 => ?_) (fun b9 => ?_))
                  · first
                    | (exfalso; omega)
                    | skip
                      show jV _ _ jm_p_X10_drawn _ 10 [some (.inr (.inr 94)), some (.inl n), some (.inl sd), some (.inl y), none, none, none, none] [.inl 1] μ
                      refine jv_if_eqF rfl rfl (by decide) ?_
                      refine jv_iload_n rfl rfl rfl ?_
                      refine jv_i2l rfl rfl ?_
                      refine jv_lconst rfl rfl ?_
                      refine jv_ldc2_w rfl rfl ?_
                      refine jv_callS3 rfl rfl rfl (Nat.le_of_ble_eq_true rfl) (mo_in (fun b15 => ?_) (fun b15 => ?_))
                      · first
                        | (exfalso; omega)
                        | skip
                          show jV _ _ jm_p_X10_drawn _ 16 [some (.inr (.inr 94)), some (.inl n), some (.inl sd), some (.inl y), none, none, none, none] [.inl 1] μ
                          refine jv_if_eqF rfl rfl (by decide) ?_
                          refine jv_iload_n rfl rfl rfl ?_
                          refine jv_i2l rfl rfl ?_
                          refine jv_lconst rfl rfl ?_
                          refine jv_lconst rfl rfl ?_
                          refine jv_callS3 rfl rfl rfl (Nat.le_of_ble_eq_true rfl) (mo_in (fun b21 => ?_) (fun b21 => ?_))
                          · first
                            | (exfalso; omega)
                            | skip
                              show jV _ _ jm_p_X10_drawn _ 22 [some (.inr (.inr 94)), some (.inl n), some (.inl sd), some (.inl y), none, none, none, none] [.inl 1] μ
                              refine jv_if_neT rfl rfl (by decide) ?_
                              refine jv_aload_n rfl rfl rfl (by decide) ?_
                              refine jv_callV0 rfl rfl rfl rfl ⟨by decide, rfl⟩ (Nat.le_of_ble_eq_true rfl) (mo_layTried hUμ (fun ν26 fν26 tν26 => ?_))
                              show jV _ _ jm_p_X10_drawn _ 27 [some (.inr (.inr 94)), some (.inl n), some (.inl sd), some (.inl y), none, none, none, none] [] ν26
                              have hUν26 := jU_jr fν26 hUμ
                              have u0ν26 := hUν26 0 (by decide) (by decide)
                              have u1ν26 := hUν26 1 (by decide) (by decide)
                              refine jv_iload_n rfl rfl rfl ?_
                              refine jv_i2l rfl rfl ?_
                              refine jv_lstore (fun x => [some (.inr (.inr 94)), some (.inl n), some (.inl sd), some (.inl y), some (.inr (.inl x)), none, none, none]) rfl rfl (fun _ => rfl) (fun x4_29 ex4_29 => ?_)
                              refine jv_iconst rfl rfl ?_
                              refine jv_istoreK (L2 := [some (.inr (.inr 94)), some (.inl n), some (.inl sd), some (.inl y), some (.inr (.inl x4_29)), none, some (.inl 0), none]) rfl rfl rfl ?_
                              refine jv_iconst rfl rfl ?_
                              refine jv_istoreK (L2 := [some (.inr (.inr 94)), some (.inl n), some (.inl sd), some (.inl y), some (.inr (.inl x4_29)), none, some (.inl 0), some (.inl 0)]) rfl rfl rfl ?_
                              exfalso; omega
                          · first
                            | (exfalso; omega)
                            | skip
                              show jV _ _ jm_p_X10_drawn _ 22 [some (.inr (.inr 94)), some (.inl n), some (.inl sd), some (.inl y), none, none, none, none] [.inl 0] μ
                              refine jv_if_neF rfl rfl (by decide) ?_
                              refine jv_ldc rfl rfl ?_
                              refine jv_ireturn rfl (Or.inl rfl) ?_
                              exact ⟨jv_one (by omega), jI_pair hI fc (jr_id _)⟩
                      · first
                        | (exfalso; omega)
                        | skip
                          show jV _ _ jm_p_X10_drawn _ 16 [some (.inr (.inr 94)), some (.inl n), some (.inl sd), some (.inl y), none, none, none, none] [.inl 0] μ
                          refine jv_if_eqT rfl rfl (by decide) ?_
                          refine jv_ldc rfl rfl ?_
                          refine jv_ireturn rfl (Or.inl rfl) ?_
                          exact ⟨jv_one (by omega), jI_pair hI fc (jr_id _)⟩
                  · first
                    | (exfalso; omega)
                    | skip
                      show jV _ _ jm_p_X10_drawn _ 10 [some (.inr (.inr 94)), some (.inl n), some (.inl sd), some (.inl y), none, none, none, none] [.inl 0] μ
                      refine jv_if_eqT rfl rfl (by decide) ?_
                      refine jv_ldc rfl rfl ?_
                      refine jv_ireturn rfl (Or.inl rfl) ?_
                      exact ⟨jv_one (by omega), jI_pair hI fc (jr_id _)⟩
              · first
                | (exfalso; omega)
                | skip
                  refine jv_ldc rfl rfl ?_
                  refine jv_ireturn rfl (Or.inl rfl) ?_
                  exact ⟨jv_one (by omega), jI_pair hI fc (jr_id _)⟩
            · show jV _ _ jm_p_X9_drawn _ 18 [some (.inr (.inr 0)), some (.inl n), some (.inl sd), some (.inl y)] [.inl 0] μ
              refine jv_if_eqT rfl rfl (by decide) ?_
              refine jv_aload_n rfl rfl rfl (by decide) ?_
              refine jv_getr (w := 49) rfl rfl rfl ⟨by decide, rfl⟩ rfl rfl ?_
              refine jv_aload_n rfl rfl rfl (by decide) ?_
              refine jv_getr (w := 7) rfl rfl rfl ⟨by decide, rfl⟩ rfl rfl ?_
              refine jv_iload_n rfl rfl rfl ?_
              refine jv_iload_n rfl rfl rfl ?_
              refine jv_iload_n rfl rfl rfl ?_
              refine jv_if_ne rfl rfl rfl (fun c28 => ?_) (fun c28 => ?_)
              · refine jv_iconst rfl rfl ?_
                refine jv_callV4 rfl rfl rfl rfl ⟨by decide, rfl⟩ (Nat.le_of_ble_eq_true rfl) (cl_years hHμ (by omega) hcf (by omega) (by omega) (fun _ μ32 fμ32 => ?_) (fun h => absurd rfl h))
                show jV _ _ jm_p_X9_drawn _ 33 [some (.inr (.inr 0)), some (.inl n), some (.inl sd), some (.inl y)] [.inl (jall (jd (μ 95) sd n.toNat).2.2 (μ 95 0).toNat)] μ32
                refine jv_ireturn rfl (Or.inl rfl) ?_
                refine ⟨_, rfl, ?_⟩
                have fc : jf μ μ32 := fμ32
                have hUμ32 : jU μ32 (μ 95) := jU_jf fc
                have u0μ32 := hUμ32 0 (by decide) (by decide)
                have u1μ32 := hUμ32 1 (by decide) (by decide)
                have q94μ32 : μ32 94 1 = μ 94 1 := by rw [fc 94 (by omega)]
                have hsm : jm_shl 1 (μ32 95 1) = jm_shl 1 (μ 95 1) := by rw [u1μ32]
                refine jv_enter (d := 199) jm_p_X10_drawn [some (.inr (.inr 94)), some (.inl n), some (.inl sd), some (.inl y), none, none, none, none] rfl rfl rfl (Nat.le_of_ble_eq_true rfl) rfl rfl ?_
                refine jv_aload_n rfl rfl rfl (by decide) ?_
                refine jv_geti rfl rfl rfl ⟨by decide, rfl⟩ (by decide) ?_
                refine jv_if_ne rfl rfl rfl (fun c2 => ?_) (fun c2 => ?_)
                · first
                  | (exfalso; omega)
                  | skip
                    refine jv_iload_n rfl rfl rfl ?_
                    refine jv_i2l rfl rfl ?_
                    refine jv_lconst rfl rfl ?_
                    refine jv_ldc2_w rfl rfl ?_
                    refine jv_callS3 rfl rfl rfl (Nat.le_of_ble_eq_true rfl) (mo_in (fun b9 => ?_) (fun b9 => ?_))
                    · first
                      | (exfalso; omega)
                      | skip
                        show jV _ _ jm_p_X10_drawn _ 10 [some (.inr (.inr 94)), some (.inl n), some (.inl sd), some (.inl y), none, none, none, none] [.inl 1] μ32
                        refine jv_if_eqF rfl rfl (by decide) ?_
                        refine jv_iload_n rfl rfl rfl ?_
                        refine jv_i2l rfl rfl ?_
                        refine jv_lconst rfl rfl ?_
                        refine jv_ldc2_w rfl rfl ?_
                        refine jv_callS3 rfl rfl rfl (Nat.le_of_ble_eq_true rfl) (mo_in (fun b15 => ?_) (fun b15 => ?_))
                        · first
                          | (exfalso; omega)
                          | skip
                            show jV _ _ jm_p_X10_drawn _ 16 [some (.inr (.inr 94)), some (.inl n), some (.inl sd), some (.inl y), none, none, none, none] [.inl 1] μ32
                            refine jv_if_eqF rfl rfl (by decide) ?_
                            refine jv_iload_n rfl rfl rfl ?_
                            refine jv_i2l rfl rfl ?_
                            refine jv_lconst rfl rfl ?_
                            refine jv_lconst rfl rfl ?_
                            refine jv_callS3 rfl rfl rfl (Nat.le_of_ble_eq_true rfl) (mo_in (fun b21 => ?_) (fun b21 => ?_))
                            · first
                              | (exfalso; omega)
                              | skip
                                show jV _ _ jm_p_X10_drawn _ 22 [some (.inr (.inr 94)), some (.inl n), some (.inl sd), some (.inl y), none, none, none, none] [.inl 1] μ32
                                refine jv_if_neT rfl rfl (by decide) ?_
                                refine jv_aload_n rfl rfl rfl (by decide) ?_
                                refine jv_callV0 rfl rfl rfl rfl ⟨by decide, rfl⟩ (Nat.le_of_ble_eq_true rfl) (mo_layTried hUμ32 (fun ν26 fν26 tν26 => ?_))
                                show jV _ _ jm_p_X10_drawn _ 27 [some (.inr (.inr 94)), some (.inl n), some (.inl sd), some (.inl y), none, none, none, none] [] ν26
                                have hUν26 := jU_jr fν26 hUμ32
                                have u0ν26 := hUν26 0 (by decide) (by decide)
                                have u1ν26 := hUν26 1 (by decide) (by decide)
                                refine jv_iload_n rfl rfl rfl ?_
                                refine jv_i2l rfl rfl ?_
                                refine jv_lstore (fun x => [some (.inr (.inr 94)), some (.inl n), some (.inl sd), some (.inl y), some (.inr (.inl x)), none, none, none]) rfl rfl (fun _ => rfl) (fun x4_29 ex4_29 => ?_)
                                refine jv_iconst rfl rfl ?_
                                refine jv_istoreK (L2 := [some (.inr (.inr 94)), some (.inl n), some (.inl sd), some (.inl y), some (.inr (.inl x4_29)), none, some (.inl 0), none]) rfl rfl rfl ?_
                                refine jv_iconst rfl rfl ?_
                                refine jv_istoreK (L2 := [some (.inr (.inr 94)), some (.inl n), some (.inl sd), some (.inl y), some (.inr (.inl x4_29)), none, some (.inl 0), some (.inl 0)]) rfl rfl rfl ?_
                                refine mo_drawn_l hUν26 hwf (by omega) hcf (by omega) (by omega) (fun h μz fz => ?_) (fun h μz fz => ?_) 61 x4_29 0 0 (μ 95) ν26 (by omega) (by omega) (by omega) (by rw [ex4_29]; rfl) tν26 (jr_id _)
                                · exact ⟨jv_one (by omega), jI_pair hI fc (jr_tr fν26 fz)⟩
                                · exact ⟨jv_one (by omega), jI_pair hI fc (jr_tr fν26 fz)⟩
                            · first
                              | (exfalso; omega)
                              | skip
                                show jV _ _ jm_p_X10_drawn _ 22 [some (.inr (.inr 94)), some (.inl n), some (.inl sd), some (.inl y), none, none, none, none] [.inl 0] μ32
                                refine jv_if_neF rfl rfl (by decide) ?_
                                refine jv_ldc rfl rfl ?_
                                refine jv_ireturn rfl (Or.inl rfl) ?_
                                exact ⟨jv_one (by omega), jI_pair hI fc (jr_id _)⟩
                        · first
                          | (exfalso; omega)
                          | skip
                            show jV _ _ jm_p_X10_drawn _ 16 [some (.inr (.inr 94)), some (.inl n), some (.inl sd), some (.inl y), none, none, none, none] [.inl 0] μ32
                            refine jv_if_eqT rfl rfl (by decide) ?_
                            refine jv_ldc rfl rfl ?_
                            refine jv_ireturn rfl (Or.inl rfl) ?_
                            exact ⟨jv_one (by omega), jI_pair hI fc (jr_id _)⟩
                    · first
                      | (exfalso; omega)
                      | skip
                        show jV _ _ jm_p_X10_drawn _ 10 [some (.inr (.inr 94)), some (.inl n), some (.inl sd), some (.inl y), none, none, none, none] [.inl 0] μ32
                        refine jv_if_eqT rfl rfl (by decide) ?_
                        refine jv_ldc rfl rfl ?_
                        refine jv_ireturn rfl (Or.inl rfl) ?_
                        exact ⟨jv_one (by omega), jI_pair hI fc (jr_id _)⟩
                · first
                  | (exfalso; omega)
                  | skip
                    refine jv_ldc rfl rfl ?_
                    refine jv_ireturn rfl (Or.inl rfl) ?_
                    exact ⟨jv_one (by omega), jI_pair hI fc (jr_id _)⟩
              · refine jv_iconst rfl rfl ?_
                refine jv_goto rfl rfl ?_
                refine jv_callV4 rfl rfl rfl rfl ⟨by decide, rfl⟩ (Nat.le_of_ble_eq_true rfl) (cl_years hHμ (by omega) hcf (by omega) (by omega) (fun h => absurd h (by decide)) (fun _ μ32_1 fμ32_1 => ?_))
                show jV _ _ jm_p_X9_drawn _ 33 [some (.inr (.inr 0)), some (.inl n), some (.inl sd), some (.inl y)] [.inl ((jd (μ 95) sd n.toNat).2.1)] μ32_1
                refine jv_ireturn rfl (Or.inl rfl) ?_
                refine ⟨_, rfl, ?_⟩
                have fc : jf μ μ32_1 := fμ32_1
                have hUμ32_1 : jU μ32_1 (μ 95) := jU_jf fc
                have u0μ32_1 := hUμ32_1 0 (by decide) (by decide)
                have u1μ32_1 := hUμ32_1 1 (by decide) (by decide)
                have q94μ32_1 : μ32_1 94 1 = μ 94 1 := by rw [fc 94 (by omega)]
                have hsm : jm_shl 1 (μ32_1 95 1) = jm_shl 1 (μ 95 1) := by rw [u1μ32_1]
                refine jv_enter (d := 199) jm_p_X10_drawn [some (.inr (.inr 94)), some (.inl n), some (.inl sd), some (.inl y), none, none, none, none] rfl rfl rfl (Nat.le_of_ble_eq_true rfl) rfl rfl ?_
                refine jv_aload_n rfl rfl rfl (by decide) ?_
                refine jv_geti rfl rfl rfl ⟨by decide, rfl⟩ (by decide) ?_
                refine jv_if_ne rfl rfl rfl (fun c2 => ?_) (fun c2 => ?_)
                · first
                  | (exfalso; omega)
                  | skip
                    refine jv_iload_n rfl rfl rfl ?_
                    refine jv_i2l rfl rfl ?_
                    refine jv_lconst rfl rfl ?_
                    refine jv_ldc2_w rfl rfl ?_
                    refine jv_callS3 rfl rfl rfl (Nat.le_of_ble_eq_true rfl) (mo_in (fun b9 => ?_) (fun b9 => ?_))
                    · first
                      | (exfalso; omega)
                      | skip
                        show jV _ _ jm_p_X10_drawn _ 10 [some (.inr (.inr 94)), some (.inl n), some (.inl sd), some (.inl y), none, none, none, none] [.inl 1] μ32_1
                        refine jv_if_eqF rfl rfl (by decide) ?_
                        refine jv_iload_n rfl rfl rfl ?_
                        refine jv_i2l rfl rfl ?_
                        refine jv_lconst rfl rfl ?_
                        refine jv_ldc2_w rfl rfl ?_
                        refine jv_callS3 rfl rfl rfl (Nat.le_of_ble_eq_true rfl) (mo_in (fun b15 => ?_) (fun b15 => ?_))
                        · first
                          | (exfalso; omega)
                          | skip
                            show jV _ _ jm_p_X10_drawn _ 16 [some (.inr (.inr 94)), some (.inl n), some (.inl sd), some (.inl y), none, none, none, none] [.inl 1] μ32_1
                            refine jv_if_eqF rfl rfl (by decide) ?_
                            refine jv_iload_n rfl rfl rfl ?_
                            refine jv_i2l rfl rfl ?_
                            refine jv_lconst rfl rfl ?_
                            refine jv_lconst rfl rfl ?_
                            refine jv_callS3 rfl rfl rfl (Nat.le_of_ble_eq_true rfl) (mo_in (fun b21 => ?_) (fun b21 => ?_))
                            · first
                              | (exfalso; omega)
                              | skip
                                show jV _ _ jm_p_X10_drawn _ 22 [some (.inr (.inr 94)), some (.inl n), some (.inl sd), some (.inl y), none, none, none, none] [.inl 1] μ32_1
                                refine jv_if_neT rfl rfl (by decide) ?_
                                refine jv_aload_n rfl rfl rfl (by decide) ?_
                                refine jv_callV0 rfl rfl rfl rfl ⟨by decide, rfl⟩ (Nat.le_of_ble_eq_true rfl) (mo_layTried hUμ32_1 (fun ν26 fν26 tν26 => ?_))
                                show jV _ _ jm_p_X10_drawn _ 27 [some (.inr (.inr 94)), some (.inl n), some (.inl sd), some (.inl y), none, none, none, none] [] ν26
                                have hUν26 := jU_jr fν26 hUμ32_1
                                have u0ν26 := hUν26 0 (by decide) (by decide)
                                have u1ν26 := hUν26 1 (by decide) (by decide)
                                refine jv_iload_n rfl rfl rfl ?_
                                refine jv_i2l rfl rfl ?_
                                refine jv_lstore (fun x => [some (.inr (.inr 94)), some (.inl n), some (.inl sd), some (.inl y), some (.inr (.inl x)), none, none, none]) rfl rfl (fun _ => rfl) (fun x4_29 ex4_29 => ?_)
                                refine jv_iconst rfl rfl ?_
                                refine jv_istoreK (L2 := [some (.inr (.inr 94)), some (.inl n), some (.inl sd), some (.inl y), some (.inr (.inl x4_29)), none, some (.inl 0), none]) rfl rfl rfl ?_
                                refine jv_iconst rfl rfl ?_
                                refine jv_istoreK (L2 := [some (.inr (.inr 94)), some (.inl n), some (.inl sd), some (.inl y), some (.inr (.inl x4_29)), none, some (.inl 0), some (.inl 0)]) rfl rfl rfl ?_
                                refine mo_drawn_l hUν26 hwf (by omega) hcf (by omega) (by omega) (fun h μz fz => ?_) (fun h μz fz => ?_) 61 x4_29 0 0 (μ 95) ν26 (by omega) (by omega) (by omega) (by rw [ex4_29]; rfl) tν26 (jr_id _)
                                · exact ⟨jv_one (by omega), jI_pair hI fc (jr_tr fν26 fz)⟩
                                · exact ⟨jv_one (by omega), jI_pair hI fc (jr_tr fν26 fz)⟩
                            · first
                              | (exfalso; omega)
                              | skip
                                show jV _ _ jm_p_X10_drawn _ 22 [some (.inr (.inr 94)), some (.inl n), some (.inl sd), some (.inl y), none, none, none, none] [.inl 0] μ32_1
                                refine jv_if_neF rfl rfl (by decide) ?_
                                refine jv_ldc rfl rfl ?_
                                refine jv_ireturn rfl (Or.inl rfl) ?_
                                exact ⟨jv_one (by omega), jI_pair hI fc (jr_id _)⟩
                        · first
                          | (exfalso; omega)
                          | skip
                            show jV _ _ jm_p_X10_drawn _ 16 [some (.inr (.inr 94)), some (.inl n), some (.inl sd), some (.inl y), none, none, none, none] [.inl 0] μ32_1
                            refine jv_if_eqT rfl rfl (by decide) ?_
                            refine jv_ldc rfl rfl ?_
                            refine jv_ireturn rfl (Or.inl rfl) ?_
                            exact ⟨jv_one (by omega), jI_pair hI fc (jr_id _)⟩
                    · first
                      | (exfalso; omega)
                      | skip
                        show jV _ _ jm_p_X10_drawn _ 10 [some (.inr (.inr 94)), some (.inl n), some (.inl sd), some (.inl y), none, none, none, none] [.inl 0] μ32_1
                        refine jv_if_eqT rfl rfl (by decide) ?_
                        refine jv_ldc rfl rfl ?_
                        refine jv_ireturn rfl (Or.inl rfl) ?_
                        exact ⟨jv_one (by omega), jI_pair hI fc (jr_id _)⟩
                · first
                  | (exfalso; omega)
                  | skip
                    refine jv_ldc rfl rfl ?_
                    refine jv_ireturn rfl (Or.inl rfl) ?_
                    exact ⟨jv_one (by omega), jI_pair hI fc (jr_id _)⟩
