/-! several come one behind another; mats that are beaten ahead of it -/
def jc (b : Int → Bool) (T : Int → Int) : Nat → Int × (Int → Int)
  | 0 => (0, T)
  | k + 1 => if b k then ((jc b T k).1 + jt_y (jc b T k).2 k (T 0).toNat, jt_come (jc b T k).2 k) else jc b T k
theorem jt_cf_come {t : Int → Int} {K c : Int} (h : jt_cf t K) (c0 : 0 ≤ c) (h4 : t 0 ≤ 4) : jt_cf (jt_come t c) (K + 1) := fun x x0 x1 => by
  have q := h x x0 x1
  unfold jt_come
  split
  · omega
  · rw [jt_part_out (by omega) h4]
    omega
theorem jc_inv {b : Int → Bool} {t T la : Int → Int} (hw : jt_wf T) (hS : jS t T la) (h0 : t 0 ≤ 4) (h1 : t 1 ≤ 6) : ∀ k : Nat, (k : Int) ≤ t 1 → jt_wf (jc b T k).2 ∧ jS t (jc b T k).2 la ∧ 0 ≤ (jc b T k).1 ∧ (jc b T k).1 ≤ 60 * k
  | 0, _ => ⟨hw, hS, Int.le_refl 0, Int.le_refl 0⟩
  | k + 1, hk => by
    obtain ⟨i1, i2, i3, i4⟩ := jc_inv (b := b) hw hS h0 h1 k (by omega)
    simp only [jc]
    split
    · have y := jt_y_r i1 (c := k) (by omega) (by omega) (T 0).toNat (by have := hw.1; omega)
      refine ⟨jt_come_wf i1 (by omega) (by omega), jS_come i2 (by omega) h0 h1, ?_, ?_⟩
      · show 0 ≤ (jc b T k).1 + jt_y (jc b T k).2 k (T 0).toNat
        omega
      · show (jc b T k).1 + jt_y (jc b T k).2 k (T 0).toNat ≤ _
        omega
    · exact ⟨i1, i2, i3, by omega⟩
theorem jc_cf {b : Int → Bool} {t T la : Int → Int} {K : Int} (hw : jt_wf T) (hS : jS t T la) (hcf : jt_cf T K) (h0 : t 0 ≤ 4) (h1 : t 1 ≤ 6) : ∀ k : Nat, (k : Int) ≤ t 1 → jt_cf (jc b T k).2 (K + k)
  | 0, _ => fun x x0 x1 => by have q := hcf x x0 x1; show 0 ≤ T (56 + x) ∧ T (56 + x) ≤ K + (0 : Nat); omega
  | k + 1, hk => by
    have ih := jc_cf (b := b) hw hS hcf h0 h1 k (by omega)
    have iv := jc_inv (b := b) hw hS h0 h1 k (by omega)
    simp only [jc]
    split
    · have q := jt_cf_come ih (c := k) (by omega) iv.1.1.2
      intro x x0 x1
      have r := q x x0 x1
      show 0 ≤ jt_come (jc b T k).2 k (56 + x) ∧ jt_come (jc b T k).2 k (56 + x) ≤ _
      omega
    · intro x x0 x1
      have r := ih x x0 x1
      omega
def jf2 (μ0 μ : jm_M) : Prop := ∀ z, z ≠ 52 → z ≠ 53 → μ z = μ0 z
theorem jf2_tr {a b c : jm_M} (h : jf2 a b) (k : jf2 b c) : jf2 a c := fun z p q => by rw [k z p q, h z p q]
set_option maxRecDepth 10000 in
theorem cl_allGo_l {X : jm_X} {d : Nat} {Q : jv_P} {b : Int → Bool} {t T la : Int → Int} {s : Int} {μ0 : jm_M} (hH0 : jH μ0 t) (hT : jt_wf T) (hS : jS t T la) (hla : jl la (t 0)) (hb : ∀ c, 0 ≤ c → c < 6 → (b c = true ↔ jm_and (jm_shr s c) 1 = 1)) (k : ∀ μ2, jf2 μ0 μ2 → jw (μ2 51) (μ2 52) la (jc b T (t 1).toNat).2 → Q [.inl (jc b T (t 1).toNat).1] μ2) : ∀ (n : Nat) (y w : Int) (μ : jm_M), 0 ≤ w → w ≤ t 1 → t 1 - w < n → y = (jc b T w.toNat).1 → jw (μ 51) (μ 52) la (jc b T w.toNat).2 → jf2 μ0 μ → jV X (d + 2) jm_p_X8_allGoOver Q 4 [some (.inr (.inr 50)), some (.inr (.inr 7)), some (.inl s), some (.inl y), some (.inl w)] [] μ := by
  intro n
  induction n with
  | zero => intro y w μ y0 y1 yn ey hj hf; exfalso; omega
  | succ n ih =>
    intro y w μ y0 y1 yn ey hj hf
    have hHμ := jH_congr (fun z p q => hf z (by omega) (by omega)) hH0
    have n3μ := jH_3 hHμ
    have n2μ := jH_2 hHμ
    obtain ⟨w0, w1, w2, w3, w4, w6, w7, w8⟩ := id hHμ.1
    have hv := jc_inv (b := b) hT hS w0.2 w1.2 w.toNat (by omega)
    have e0 : (jc b T w.toNat).2 0 = T 0 := by rw [hv.2.1.1, hS.1]
    have hyr : 0 ≤ jt_y (jc b T w.toNat).2 w ((jc b T w.toNat).2 0).toNat ∧ jt_y (jc b T w.toNat).2 w ((jc b T w.toNat).2 0).toNat ≤ 60 ∨ t 1 ≤ w := by
      by_cases q : w < t 1
      · exact Or.inl (jt_y_r hv.1 y0 (by omega) _ (by have := hv.1.1; omega))
      · exact Or.inr (by omega)
    refine jv_iload rfl rfl rfl ?_
    refine jv_aload_n rfl rfl rfl (by decide) ?_
    refine jv_geti rfl rfl rfl ⟨by decide, rfl⟩ (by decide) ?_
    refine jv_icmp_ge rfl rfl rfl (fun c7 => ?_) (fun c7 => ?_)
    · refine jv_iload_n rfl rfl rfl ?_
      refine jv_ireturn rfl (Or.inl rfl) ?_
      have hw : w = t 1 := by omega
      rw [hw] at ey hj
      rw [ey]
      exact k _ hf hj
    · refine jv_iload_n rfl rfl rfl ?_
      refine jv_iload rfl rfl rfl ?_
      refine jv_ishr rfl rfl ?_
      refine jv_iconst rfl rfl ?_
      refine jv_iand rfl rfl ?_
      refine jv_iconst rfl rfl ?_
      refine jv_icmp_ne rfl rfl rfl (fun c14 => ?_) (fun c14 => ?_)
      · refine jv_iinc (fun x => [some (.inr (.inr 50)), some (.inr (.inr 7)), some (.inl s), some (.inl y), some (.inl x)]) rfl rfl rfl ⟨by omega, by omega⟩ (fun _ => rfl) (fun x4_25 ex4_25 => ?_)
        refine jv_goto rfl rfl ?_
        refine ih y x4_25 μ (by omega) (by omega) (by omega) ?_ ?_ ?_
        · rw [ex4_25, show (w + 1).toNat = w.toNat + 1 by omega]
          simp only [jc]
          rw [show ((w.toNat : Nat) : Int) = w by omega]
          rw [if_neg (fun q => c14 ((hb w (by omega) (by omega)).1 q))]
          exact ey
        · rw [ex4_25, show (w + 1).toNat = w.toNat + 1 by omega]
          simp only [jc]
          rw [show ((w.toNat : Nat) : Int) = w by omega]
          rw [if_neg (fun q => c14 ((hb w (by omega) (by omega)).1 q))]
          exact hj
        · exact hf
      · refine jv_iload_n rfl rfl rfl ?_
        refine jv_aload_n rfl rfl rfl (by decide) ?_
        refine jv_aload_n rfl rfl rfl (by decide) ?_
        refine jv_aload_n rfl rfl rfl (by decide) ?_
        refine jv_getr (w := 9) rfl rfl rfl ⟨by decide, rfl⟩ rfl rfl ?_
        refine jv_iload rfl rfl rfl ?_
        refine jv_aaloadv (v := 18 + w) rfl rfl rfl ⟨by decide, by decide, by decide⟩ ⟨by omega, by omega⟩ (jH_com hHμ (by omega) (by omega)) ?_
        refine jv_callV2 rfl rfl rfl rfl ⟨by decide, rfl⟩ (Nat.le_of_ble_eq_true rfl) (cl_goC50 hHμ hv.1 hv.2.1 hla (by omega) hj (fun μ22 fμ22 jμ22 lμ22 => ?_))
        show jV _ _ jm_p_X8_allGoOver _ 23 [some (.inr (.inr 50)), some (.inr (.inr 7)), some (.inl s), some (.inl y), some (.inl w)] [.inl (jt_y (jc b T w.toNat).2 w ((jc b T w.toNat).2 0).toNat), .inl y] μ22
        have hHμ22 := jH_congr (fun z a b => fμ22 z (by omega) (by omega)) hHμ
        have n3μ22 := jH_3 hHμ22
        have n2μ22 := jH_2 hHμ22
        refine jv_iadd rfl rfl ⟨by omega, by omega⟩ ?_
        refine jv_istore_n (fun x => [some (.inr (.inr 50)), some (.inr (.inr 7)), some (.inl s), some (.inl x), some (.inl w)]) rfl rfl (fun _ => rfl) (fun x3_24 ex3_24 => ?_)
        refine jv_iinc (fun x => [some (.inr (.inr 50)), some (.inr (.inr 7)), some (.inl s), some (.inl x3_24), some (.inl x)]) rfl rfl rfl ⟨by omega, by omega⟩ (fun _ => rfl) (fun x4_25_1 ex4_25_1 => ?_)
        refine jv_goto rfl rfl ?_
        refine ih x3_24 x4_25_1 μ22 (by omega) (by omega) (by omega) ?_ ?_ ?_
        · rw [ex4_25_1, show (w + 1).toNat = w.toNat + 1 by omega]
          simp only [jc]
          rw [show ((w.toNat : Nat) : Int) = w by omega]
          rw [if_pos ((hb w (by omega) (by omega)).2 (by omega)), ex3_24, ey, e0]
        · rw [ex4_25_1, show (w + 1).toNat = w.toNat + 1 by omega]
          simp only [jc]
          rw [show ((w.toNat : Nat) : Int) = w by omega]
          rw [if_pos ((hb w (by omega) (by omega)).2 (by omega))]
          exact jμ22
        · exact fun z p q => by rw [fμ22 z p q, hf z p q]
set_option maxRecDepth 10000 in
theorem cl_allGo {X : jm_X} {d : Nat} {Q : jv_P} {μ : jm_M} {b : Int → Bool} {t T la : Int → Int} {s : Int} (hH0 : jH μ t) (hT : jt_wf T) (hS : jS t T la) (hla : jl la (t 0)) (hb : ∀ c, 0 ≤ c → c < 6 → (b c = true ↔ jm_and (jm_shr s c) 1 = 1)) (hJ : jw (μ 51) (μ 52) la T) (k : ∀ μ2, jf2 μ μ2 → jw (μ2 51) (μ2 52) la (jc b T (t 1).toNat).2 → Q [.inl (jc b T (t 1).toNat).1] μ2) : cV X (d + 3) 85 [.inr (.inr 50), .inr (.inr 7), .inl s] μ Q := by
  refine jv_enter (d := d + 2) jm_p_X8_allGoOver [some (.inr (.inr 50)), some (.inr (.inr 7)), some (.inl s), none, none] rfl rfl rfl (Nat.le_of_ble_eq_true rfl) rfl rfl ?_
  refine jv_iconst rfl rfl ?_
  refine jv_istore_nK (L2 := [some (.inr (.inr 50)), some (.inr (.inr 7)), some (.inl s), some (.inl 0), none]) rfl rfl rfl ?_
  refine jv_iconst rfl rfl ?_
  refine jv_istoreK (L2 := [some (.inr (.inr 50)), some (.inr (.inr 7)), some (.inl s), some (.inl 0), some (.inl 0)]) rfl rfl rfl ?_
  exact cl_allGo_l hH0 hT hS hla hb k 9 0 0 μ (by omega) hH0.1.2.1.1 (by have := hH0.1.2.1.2; omega) rfl hJ (fun _ _ _ => rfl)
set_option maxRecDepth 10000 in
theorem mo_comeAll_l {X : jm_X} {d : Nat} {Q : jv_P} {b : Int → Bool} {t T la : Int → Int} {s : Int} {μ0 : jm_M} (hU0 : jU μ0 t) (hw : jt_wf T) (hS : jS t T la) (hcf : jt_cf T 99990) (h0 : t 0 ≤ 4) (h1 : 0 ≤ t 1 ∧ t 1 ≤ 6) (hb : ∀ c, 0 ≤ c → c < 6 → (b c = true ↔ ¬ jm_and (jm_shr s c) 1 = 1)) (k : ∀ μ2, jr μ0 μ2 → jT μ2 (jc b T (t 1).toNat).2 → Q [.inl (jc b T (t 1).toNat).1] μ2) : ∀ (n : Nat) (y w : Int) (μ : jm_M), 0 ≤ w → w ≤ t 1 → t 1 - w < n → y = (jc b T w.toNat).1 → jT μ (jc b T w.toNat).2 → jr μ0 μ → jV X (d + 3) jm_p_X10_comeAll Q 4 [some (.inr (.inr 94)), some (.inl s), some (.inl y), some (.inl w)] [] μ := by
  intro n
  induction n with
  | zero => intro y w μ y0 y1 yn ey hj hf; exfalso; omega
  | succ n ih =>
    intro y w μ y0 y1 yn ey hj hf
    have hUμ := jU_jr hf hU0
    have u0μ := hUμ 0 (by decide) (by decide)
    have u1μ := hUμ 1 (by decide) (by decide)
    have hv := jc_inv (b := b) hw hS h0 h1.2 w.toNat (by omega)
    have hvc := jc_cf (b := b) hw hS hcf h0 h1.2 w.toNat (by omega)
    have hvd : jt_cf (jc b T w.toNat).2 100000 := fun x x0 x1 => by have q := hvc x x0 x1; omega
    have e0 : (jc b T w.toNat).2 0 = T 0 := by rw [hv.2.1.1, hS.1]
    have hyr : 0 ≤ jt_y (jc b T w.toNat).2 w ((jc b T w.toNat).2 0).toNat ∧ jt_y (jc b T w.toNat).2 w ((jc b T w.toNat).2 0).toNat ≤ 60 ∨ t 1 ≤ w := by
      by_cases q : w < t 1
      · exact Or.inl (jt_y_r hv.1 y0 (by omega) _ (by have := hv.1.1; omega))
      · exact Or.inr (by omega)
    refine jv_iload_n rfl rfl rfl ?_
    refine jv_aload_n rfl rfl rfl (by decide) ?_
    refine jv_getr (w := 95) rfl rfl rfl ⟨by decide, rfl⟩ rfl rfl ?_
    refine jv_iconst rfl rfl ?_
    refine jv_iaload rfl rfl (by decide) rfl ⟨by omega, by omega⟩ ?_
    refine jv_icmp_ge rfl rfl rfl (fun c9 => ?_) (fun c9 => ?_)
    · refine jv_iload_n rfl rfl rfl ?_
      refine jv_ireturn rfl (Or.inl rfl) ?_
      have hw : w = t 1 := by omega
      rw [hw] at ey hj
      rw [ey]
      exact k _ hf hj
    · refine jv_iload_n rfl rfl rfl ?_
      refine jv_iload_n rfl rfl rfl ?_
      refine jv_iload_n rfl rfl rfl ?_
      refine jv_callS2 rfl rfl rfl (Nat.le_of_ble_eq_true rfl) (mo_has (fun b13 => ?_) (fun b13 => ?_))
      · show jV _ _ jm_p_X10_comeAll _ 14 [some (.inr (.inr 94)), some (.inl s), some (.inl y), some (.inl w)] [.inl 1, .inl y] μ
        refine jv_if_eqF rfl rfl (by decide) ?_
        refine jv_iconst rfl rfl ?_
        refine jv_goto rfl rfl ?_
        refine jv_iadd rfl rfl ⟨by omega, by omega⟩ ?_
        refine jv_istore_n (fun x => [some (.inr (.inr 94)), some (.inl s), some (.inl x), some (.inl w)]) rfl rfl (fun _ => rfl) (fun x2_22 ex2_22 => ?_)
        refine jv_iinc (fun x => [some (.inr (.inr 94)), some (.inl s), some (.inl x2_22), some (.inl x)]) rfl rfl rfl ⟨by omega, by omega⟩ (fun _ => rfl) (fun x3_23 ex3_23 => ?_)
        refine jv_goto rfl rfl ?_
        refine ih x2_22 x3_23 μ (by omega) (by omega) (by omega) ?_ ?_ ?_
        · rw [ex3_23, show (w + 1).toNat = w.toNat + 1 by omega]
          simp only [jc]
          rw [show ((w.toNat : Nat) : Int) = w by omega]
          rw [if_neg (fun q => (hb w (by omega) (by omega)).1 q b13), ex2_22, Int.add_zero]
          exact ey
        · rw [ex3_23, show (w + 1).toNat = w.toNat + 1 by omega]
          simp only [jc]
          rw [show ((w.toNat : Nat) : Int) = w by omega]
          rw [if_neg (fun q => (hb w (by omega) (by omega)).1 q b13)]
          exact hj
        · exact hf
      · show jV _ _ jm_p_X10_comeAll _ 14 [some (.inr (.inr 94)), some (.inl s), some (.inl y), some (.inl w)] [.inl 0, .inl y] μ
        refine jv_if_eqT rfl rfl (by decide) ?_
        refine jv_aload_n rfl rfl rfl (by decide) ?_
        refine jv_sipush rfl rfl ?_
        refine jv_iload_n rfl rfl rfl ?_
        refine jv_callV2 rfl rfl rfl rfl ⟨by decide, rfl⟩ (Nat.le_of_ble_eq_true rfl) (mo_comesT hj (by omega) hv.1 hvd (fun μ20 fμ20 tμ20 => ?_))
        show jV _ _ jm_p_X10_comeAll _ 21 [some (.inr (.inr 94)), some (.inl s), some (.inl y), some (.inl w)] [.inl (jt_y (jc b T w.toNat).2 w ((jc b T w.toNat).2 0).toNat), .inl y] μ20
        have hUμ20 := jU_jr fμ20 hUμ
        have u0μ20 := hUμ20 0 (by decide) (by decide)
        have u1μ20 := hUμ20 1 (by decide) (by decide)
        refine jv_iadd rfl rfl ⟨by omega, by omega⟩ ?_
        refine jv_istore_n (fun x => [some (.inr (.inr 94)), some (.inl s), some (.inl x), some (.inl w)]) rfl rfl (fun _ => rfl) (fun x2_22_1 ex2_22_1 => ?_)
        refine jv_iinc (fun x => [some (.inr (.inr 94)), some (.inl s), some (.inl x2_22_1), some (.inl x)]) rfl rfl rfl ⟨by omega, by omega⟩ (fun _ => rfl) (fun x3_23_1 ex3_23_1 => ?_)
        refine jv_goto rfl rfl ?_
        refine ih x2_22_1 x3_23_1 μ20 (by omega) (by omega) (by omega) ?_ ?_ ?_
        · rw [ex3_23_1, show (w + 1).toNat = w.toNat + 1 by omega]
          simp only [jc]
          rw [show ((w.toNat : Nat) : Int) = w by omega]
          rw [if_pos ((hb w (by omega) (by omega)).2 b13), ex2_22_1, ey, e0]
        · rw [ex3_23_1, show (w + 1).toNat = w.toNat + 1 by omega]
          simp only [jc]
          rw [show ((w.toNat : Nat) : Int) = w by omega]
          rw [if_pos ((hb w (by omega) (by omega)).2 b13)]
          exact tμ20
        · exact jr_tr hf fμ20
set_option maxRecDepth 10000 in
theorem mo_comeAll {X : jm_X} {d : Nat} {Q : jv_P} {μ : jm_M} {b : Int → Bool} {t T la : Int → Int} {s : Int} (hU0 : jU μ t) (hw : jt_wf T) (hS : jS t T la) (hcf : jt_cf T 99990) (h0 : t 0 ≤ 4) (h1 : 0 ≤ t 1 ∧ t 1 ≤ 6) (hb : ∀ c, 0 ≤ c → c < 6 → (b c = true ↔ ¬ jm_and (jm_shr s c) 1 = 1)) (hT : jT μ T) (k : ∀ μ2, jr μ μ2 → jT μ2 (jc b T (t 1).toNat).2 → Q [.inl (jc b T (t 1).toNat).1] μ2) : cV X (d + 4) 191 [.inr (.inr 94), .inl s] μ Q := by
  refine jv_enter (d := d + 3) jm_p_X10_comeAll [some (.inr (.inr 94)), some (.inl s), none, none] rfl rfl rfl (Nat.le_of_ble_eq_true rfl) rfl rfl ?_
  refine jv_iconst rfl rfl ?_
  refine jv_istore_nK (L2 := [some (.inr (.inr 94)), some (.inl s), some (.inl 0), none]) rfl rfl rfl ?_
  refine jv_iconst rfl rfl ?_
  refine jv_istore_nK (L2 := [some (.inr (.inr 94)), some (.inl s), some (.inl 0), some (.inl 0)]) rfl rfl rfl ?_
  exact mo_comeAll_l hU0 hw hS hcf h0 h1 hb k 9 0 0 μ (by omega) h1.1 (by omega) rfl hT (jr_id _)
def jt_beat (T : Int → Int) (m : Int) : Int → Int := jz_zero T (8 + 6 * m) 6
theorem jt_beat_out {T : Int → Int} {m j : Int} (hm : 0 ≤ m ∧ m < 4) (h : j < 8 ∨ 32 ≤ j) : jt_beat T m j = T j := by
  unfold jt_beat jz_zero
  rw [if_neg (by omega)]
theorem jt_beat_lies {T : Int → Int} {m p : Int} (hp : 0 ≤ p ∧ p < 4) : jt_lies (jt_beat T m) p = if p = m then 0 else jt_lies T p := by
  unfold jt_lies jt_beat jz_zero
  by_cases h : p = m
  · rw [if_pos (by omega), if_pos (by omega), if_pos (by omega), if_pos (by omega), if_pos (by omega), if_pos (by omega), if_pos h]
    rfl
  · rw [if_neg (by omega), if_neg (by omega), if_neg (by omega), if_neg (by omega), if_neg (by omega), if_neg (by omega), if_neg h]
theorem jt_beat_wf {T : Int → Int} {m : Int} (hm : 0 ≤ m ∧ m < 4) (hw : jt_wf T) : jt_wf (jt_beat T m) := by
  obtain ⟨w0, w1, w2, w3, w4, w6, w7, w8⟩ := hw
  have o := fun j h => jt_beat_out (T := T) (j := j) hm h
  refine ⟨by rw [o 0 (by omega)]; exact w0, by rw [o 1 (by omega)]; exact w1, by rw [o 2 (by omega)]; exact w2, by rw [o 3 (by omega)]; exact w3, fun p p0 p1 => by rw [o _ (by omega)]; exact w4 p p0 p1, fun j j0 j1 => ?_, fun p p0 p1 => ?_, fun x x0 x1 => ?_⟩
  · have h := w6 j j0 j1
    unfold jt_beat jz_zero
    split
    · omega
    · exact h
  · have h := w7 p p0 p1
    rw [jt_beat_lies ⟨p0, p1⟩, o 2 (by omega)]
    split
    · omega
    · exact h
  · rw [o _ (by omega), o _ (by omega), o _ (by omega), o _ (by omega)]
    exact w8 x x0 x1
theorem jS_beat {t T la : Int → Int} {m : Int} (hm : 0 ≤ m ∧ m < 4) (h0 : t 0 ≤ 4) (h : jS t T la) : jS t (jt_beat T m) la := by
  obtain ⟨a, b, d, e, f⟩ := h
  have o := fun j h => jt_beat_out (T := T) (j := j) hm h
  refine ⟨by rw [o 0 (by omega)]; exact a, by rw [o 1 (by omega)]; exact b, by rw [o 2 (by omega)]; exact d, fun p p0 p1 => by rw [o (4 + p) (by omega)]; exact e p p0 p1, fun x x0 x1 => ?_⟩
  rw [o (32 + x) (by omega), o (38 + x) (by omega), o (44 + x) (by omega), o (50 + x) (by omega)]
  exact f x x0 x1
theorem jt_cf_beat {T : Int → Int} {m K : Int} (hm : 0 ≤ m ∧ m < 4) (h : jt_cf T K) : jt_cf (jt_beat T m) K := fun x x0 x1 => by
  rw [jt_beat_out hm (by omega)]
  exact h x x0 x1
theorem jw_beat {fa fb T : Int → Int} {m : Int} (hm : 0 ≤ m ∧ m < 4) (hw : jt_wf T) (h : jw fa fb (fun p => p) T) : jw fa (jm_u1 fb m 0) (fun p => p) (jt_beat T m) := by
  have o := fun j h => jt_beat_out (T := T) (j := j) hm h
  have w0 := hw.1
  have w2 := hw.2.2.1
  refine ⟨fun p p0 p1 => ?_, fun x x0 x1 => ?_⟩
  · rw [o 0 (by omega)] at p1
    have q := h.1 p p0 p1
    refine ⟨q.1, ?_⟩
    show jm_u1 fb m 0 p = _
    rw [jt_beat_lies ⟨p0, by omega⟩]
    unfold jm_u1
    split
    · rfl
    · exact q.2
  · have q := h.2 x x0 x1
    rw [o 2 (by omega)]
    unfold jm_u1
    split
    · omega
    · exact q
/-- of the first k mats those that q tells are beaten -/
def jbt (q : Int → Bool) (T : Int → Int) : Nat → (Int → Int)
  | 0 => T
  | k + 1 => if q k then jt_beat (jbt q T k) k else jbt q T k
theorem jbt_inv {q : Int → Bool} {t T la : Int → Int} {K : Int} (hw : jt_wf T) (hS : jS t T la) (hcf : jt_cf T K) (h0 : t 0 ≤ 4) : ∀ k : Nat, (k : Int) ≤ t 0 → jt_wf (jbt q T k) ∧ jS t (jbt q T k) la ∧ jt_cf (jbt q T k) K
  | 0, _ => ⟨hw, hS, hcf⟩
  | k + 1, hk => by
    obtain ⟨i1, i2, i3⟩ := jbt_inv (q := q) hw hS hcf h0 k (by omega)
    simp only [jbt]
    split
    · exact ⟨jt_beat_wf (by omega) i1, jS_beat (by omega) h0 i2, jt_cf_beat (by omega) i3⟩
    · exact ⟨i1, i2, i3⟩
set_option maxRecDepth 10000 in
theorem mo_beatsAt_l {X : jm_X} {d : Nat} {Q : jv_P} {base m y : Int} {μ0 : jm_M} (hb : 0 ≤ base ∧ base ≤ 1674) (hm : 0 ≤ m ∧ m < 4) (k : Q [.inl y] (jm_uc μ0 95 (jz_zero (μ0 95) (base + 8 + 6 * m) 6))) : ∀ (n : Nat) (w : Int) (μ : jm_M), 0 ≤ w → w ≤ 6 → 6 - w < n → μ = jm_uc μ0 95 (jz_zero (μ0 95) (base + 8 + 6 * m) w) → jV X d jm_p_X10_beatsAt Q 7 [some (.inr (.inr 94)), some (.inl base), some (.inl m), some (.inl y), some (.inl w)] [] μ := by
  intro n
  induction n with
  | zero => intro w μ y0 y1 yn hμ; exfalso; omega
  | succ n ih =>
    intro w μ y0 y1 yn hμ
    refine jv_iload rfl rfl rfl ?_
    refine jv_bipush rfl rfl ?_
    refine jv_icmp_ge rfl rfl rfl (fun c9 => ?_) (fun c9 => ?_)
    · refine jv_iload_n rfl rfl rfl ?_
      refine jv_ireturn rfl (Or.inl rfl) ?_
      have hx : w = 6 := by omega
      subst hx hμ
      exact k
    · refine jv_aload_n rfl rfl rfl (by decide) ?_
      refine jv_getr (w := 95) rfl rfl rfl ⟨by decide, rfl⟩ rfl rfl ?_
      refine jv_iload_n rfl rfl rfl ?_
      refine jv_bipush rfl rfl ?_
      refine jv_iadd rfl rfl ⟨by omega, by omega⟩ ?_
      refine jv_bipush rfl rfl ?_
      refine jv_iload_n rfl rfl rfl ?_
      refine jv_imul rfl rfl ⟨by omega, by omega⟩ ?_
      refine jv_iadd rfl rfl ⟨by omega, by omega⟩ ?_
      refine jv_iload rfl rfl rfl ?_
      refine jv_iadd rfl rfl ⟨by omega, by omega⟩ ?_
      refine jv_iconst rfl rfl ?_
      refine jv_iastore rfl rfl rfl (by decide) ⟨by omega, by omega⟩ (fun μ22 eμ22 => ?_)
      refine jv_iinc (fun x => [some (.inr (.inr 94)), some (.inl base), some (.inl m), some (.inl y), some (.inl x)]) rfl rfl rfl ⟨by omega, by omega⟩ (fun _ => rfl) (fun x4_23 ex4_23 => ?_)
      refine jv_goto rfl rfl ?_
      refine ih x4_23 μ22 (by omega) (by omega) (by omega) ?_
      rw [eμ22, hμ, jm_uc2, ex4_23]
      congr 1
      funext j
      simp only [jm_u1, jm_uc_self, jz_zero]
      by_cases hj : j = base + 8 + 6 * m + w
      · rw [if_pos hj, if_pos (by omega)]
      · rw [if_neg hj]
        by_cases hr2 : base + 8 + 6 * m ≤ j ∧ j < base + 8 + 6 * m + w
        · rw [if_pos hr2, if_pos (by omega)]
        · rw [if_neg hr2, if_neg (by omega)]
set_option maxRecDepth 10000 in
theorem mo_beatsAt {X : jm_X} {d : Nat} {Q : jv_P} {μ : jm_M} {base m : Int} (hb : 0 ≤ base ∧ base ≤ 1674) (hm : 0 ≤ m ∧ m < 4) (hw : jt_wf (fun k => μ 95 (base + k))) (k : ∀ μ2, μ2 = jm_uc μ 95 (jz_zero (μ 95) (base + 8 + 6 * m) 6) → Q [.inl (jt_lies (fun k => μ 95 (base + k)) m)] μ2) : cV X (d + 2) 170 [.inr (.inr 94), .inl base, .inl m] μ Q := by
  refine jv_enter (d := d + 1) jm_p_X10_beatsAt [some (.inr (.inr 94)), some (.inl base), some (.inl m), none, none] rfl rfl rfl (Nat.le_of_ble_eq_true rfl) rfl rfl ?_
  refine jv_aload_n rfl rfl rfl (by decide) ?_
  refine jv_iload_n rfl rfl rfl ?_
  refine jv_iload_n rfl rfl rfl ?_
  refine jv_callV2 rfl rfl rfl rfl ⟨by decide, rfl⟩ (Nat.le_of_ble_eq_true rfl) (mo_liesOn (by omega) (by omega) (by assumption) ?_)
  show jV _ _ jm_p_X10_beatsAt _ 4 [some (.inr (.inr 94)), some (.inl base), some (.inl m), none, none] [.inl (jt_lies (fun k => μ 95 (base + k)) m)] μ
  refine jv_istore_n (fun x => [some (.inr (.inr 94)), some (.inl base), some (.inl m), some (.inl x), none]) rfl rfl (fun _ => rfl) (fun x3_4 ex3_4 => ?_)
  refine jv_iconst rfl rfl ?_
  refine jv_istoreK (L2 := [some (.inr (.inr 94)), some (.inl base), some (.inl m), some (.inl x3_4), some (.inl 0)]) rfl rfl rfl ?_
  refine mo_beatsAt_l hb hm (μ0 := μ) ?_ 7 0 μ (by omega) (by omega) (by omega) ?_
  · rw [ex3_4]
    exact k _ rfl
  · have e : jz_zero (μ 95) (base + 8 + 6 * m) 0 = μ 95 := by
      funext j
      unfold jz_zero
      rw [if_neg (by omega)]
    rw [e, jm_uc_id]
theorem mo_beatsT {X : jm_X} {d : Nat} {Q : jv_P} {μ : jm_M} {m : Int} {T : Int → Int} (hT : jT μ T) (hm : 0 ≤ m ∧ m < 4) (hw : jt_wf T) (k : ∀ μ2, jr μ μ2 → jT μ2 (jt_beat T m) → Q [.inl (jt_lies T m)] μ2) : cV X (d + 2) 170 [.inr (.inr 94), .inl 1674, .inl m] μ Q := by
  have hs : ∀ k, 0 ≤ k → k < 62 → T k = (fun k => μ 95 (1674 + k)) k := fun k a b => (hT k a b).symm
  refine mo_beatsAt (by omega) hm (jt_wf_congr hs hw) (fun μ2 e => ?_)
  rw [← jt_lies_congr hs hm.1 hm.2]
  refine k _ ⟨fun z q => by rw [e]; exact jm_uc_ne q, fun j q => ?_⟩ (fun j j0 j1 => ?_)
  · rw [e, jm_uc_self]
    unfold jz_zero
    rw [if_neg (by omega)]
  · rw [e, jm_uc_self]
    unfold jt_beat jz_zero
    by_cases h : 8 + 6 * m ≤ j ∧ j < 8 + 6 * m + 6
    · rw [if_pos h, if_pos (by omega)]
    · rw [if_neg h, if_neg (by omega)]
      exact hT j j0 j1
set_option maxRecDepth 10000 in
theorem cl_carIf_l {X : jm_X} {d : Nat} {Q : jv_P} {b bq : Int → Bool} {t : Int → Int} {s q K0 : Int} {μ0 : jm_M} (hH0 : jH μ0 t) (hcf : jt_cf t K0) (hb : ∀ c, 0 ≤ c → c < 6 → (b c = true ↔ jm_and (jm_shr s c) 1 = 1)) (hq : ∀ m, 0 ≤ m → m < 4 → (bq m = true ↔ jm_and (jm_shr q m) 1 = 1)) (k : ∀ μ2, jf μ0 μ2 → Q [.inl (jc b (jbt bq t (t 0).toNat) (t 1).toNat).1] μ2) : ∀ (n : Nat) (w : Int) (μ : jm_M), 0 ≤ w → w ≤ t 0 → t 0 - w < n → jw (μ 51) (μ 52) (fun p => p) (jbt bq t w.toNat) → jf5 μ0 μ → jV X (d + 3) jm_p_X2_carriedIfBeaten Q 6 [some (.inr (.inr 49)), some (.inr (.inr 7)), some (.inl s), some (.inl q), some (.inl w)] [] μ := by
  intro n
  induction n with
  | zero => intro w μ y0 y1 yn hj hf; exfalso; omega
  | succ n ih =>
    intro w μ y0 y1 yn hj hf
    have hHμ := jH_congr (fun z p q => hf z (by omega)) hH0
    have n3μ := jH_3 hHμ
    have n2μ := jH_2 hHμ
    obtain ⟨w0, w1, w2, w3, w4, w6, w7, w8⟩ := id hHμ.1
    have hv := jbt_inv (q := bq) hHμ.1 (jS_id t) hcf w0.2 w.toNat (by omega)
    refine jv_iload rfl rfl rfl ?_
    refine jv_aload_n rfl rfl rfl (by decide) ?_
    refine jv_geti rfl rfl rfl ⟨by decide, rfl⟩ (by decide) ?_
    refine jv_icmp_ge rfl rfl rfl (fun c9 => ?_) (fun c9 => ?_)
    · refine jv_aload_n rfl rfl rfl (by decide) ?_
      refine jv_getr (w := 50) rfl rfl rfl ⟨by decide, rfl⟩ rfl rfl ?_
      refine jv_aload_n rfl rfl rfl (by decide) ?_
      refine jv_iload_n rfl rfl rfl ?_
      refine jv_callV2 rfl rfl rfl rfl ⟨by decide, rfl⟩ (Nat.le_of_ble_eq_true rfl) (cl_allGo hHμ hv.1 hv.2.1 (jl_id _) hb hj (fun μ29 fμ29 jμ29 => ?_))
      show jV _ _ jm_p_X2_carriedIfBeaten _ 30 [some (.inr (.inr 49)), some (.inr (.inr 7)), some (.inl s), some (.inl q), some (.inl w)] [.inl ((jc b (jbt bq t w.toNat) (t 1).toNat).1)] μ29
      refine jv_ireturn rfl (Or.inl rfl) ?_
      have hw : w = t 0 := by omega
      rw [hw]
      exact k _ (fun z p => by rw [fμ29 z (by omega) (by omega), hf z (by omega)])
    · refine jv_iload_n rfl rfl rfl ?_
      refine jv_iload rfl rfl rfl ?_
      refine jv_ishr rfl rfl ?_
      refine jv_iconst rfl rfl ?_
      refine jv_iand rfl rfl ?_
      refine jv_iconst rfl rfl ?_
      refine jv_icmp_ne rfl rfl rfl (fun c16 => ?_) (fun c16 => ?_)
      · refine jv_iinc (fun x => [some (.inr (.inr 49)), some (.inr (.inr 7)), some (.inl s), some (.inl q), some (.inl x)]) rfl rfl rfl ⟨by omega, by omega⟩ (fun _ => rfl) (fun x4_23 ex4_23 => ?_)
        refine jv_goto rfl rfl ?_
        refine ih x4_23 μ (by omega) (by omega) (by omega) ?_ ?_
        · rw [ex4_23, show (w + 1).toNat = w.toNat + 1 by omega]
          simp only [jbt]
          rw [show ((w.toNat : Nat) : Int) = w by omega]
          rw [if_neg (fun z => c16 ((hq w (by omega) (by omega)).1 z))]
          exact hj
        · exact hf
      · refine jv_aload_n rfl rfl rfl (by decide) ?_
        refine jv_getr (w := 50) rfl rfl rfl ⟨by decide, rfl⟩ rfl rfl ?_
        refine jv_getr (w := 52) rfl rfl rfl ⟨by decide, rfl⟩ rfl rfl ?_
        refine jv_iload rfl rfl rfl ?_
        refine jv_iconst rfl rfl ?_
        refine jv_iastore rfl rfl rfl (by decide) ⟨by omega, by omega⟩ (fun μ22 eμ22 => ?_)
        refine jv_iinc (fun x => [some (.inr (.inr 49)), some (.inr (.inr 7)), some (.inl s), some (.inl q), some (.inl x)]) rfl rfl rfl ⟨by omega, by omega⟩ (fun _ => rfl) (fun x4_23_1 ex4_23_1 => ?_)
        refine jv_goto rfl rfl ?_
        refine ih x4_23_1 μ22 (by omega) (by omega) (by omega) ?_ ?_
        · rw [ex4_23_1, show (w + 1).toNat = w.toNat + 1 by omega]
          simp only [jbt]
          rw [show ((w.toNat : Nat) : Int) = w by omega]
          rw [if_pos ((hq w (by omega) (by omega)).2 (by omega))]
          have z1 : μ22 51 = μ 51 := by rw [eμ22, jm_off1 (by decide)]
          have z2 : μ22 52 = jm_u1 (μ 52) w 0 := by rw [eμ22, jm_uc_self]
          rw [z1, z2]
          exact jw_beat (by omega) hv.1 hj
        · exact fun z p => by rw [eμ22, jm_off1 (by omega), hf z p]
set_option maxRecDepth 10000 in
theorem cl_carIf {X : jm_X} {d : Nat} {Q : jv_P} {μ : jm_M} {b bq : Int → Bool} {t : Int → Int} {s q K0 : Int} (hHμ : jH μ t) (hcf : jt_cf t K0) (hb : ∀ c, 0 ≤ c → c < 6 → (b c = true ↔ jm_and (jm_shr s c) 1 = 1)) (hq : ∀ m, 0 ≤ m → m < 4 → (bq m = true ↔ jm_and (jm_shr q m) 1 = 1)) (k : ∀ μ2, jf μ μ2 → Q [.inl (jc b (jbt bq t (t 0).toNat) (t 1).toNat).1] μ2) : cV X (d + 4) 19 [.inr (.inr 49), .inr (.inr 7), .inl s, .inl q] μ Q := by
  refine jv_enter (d := d + 3) jm_p_X2_carriedIfBeaten [some (.inr (.inr 49)), some (.inr (.inr 7)), some (.inl s), some (.inl q), none] rfl rfl rfl (Nat.le_of_ble_eq_true rfl) rfl rfl ?_
  refine jv_aload_n rfl rfl rfl (by decide) ?_
  refine jv_getr (w := 50) rfl rfl rfl ⟨by decide, rfl⟩ rfl rfl ?_
  refine jv_aload_n rfl rfl rfl (by decide) ?_
  refine jv_callV1 rfl rfl rfl rfl ⟨by decide, rfl⟩ (Nat.le_of_ble_eq_true rfl) (cl_beginT50 hHμ (fun μ3 fμ3 jμ3 lμ3 => ?_))
  show jV _ _ jm_p_X2_carriedIfBeaten _ 4 [some (.inr (.inr 49)), some (.inr (.inr 7)), some (.inl s), some (.inl q), none] [] μ3
  have hHμ3 := jH_congr (fun z a b => fμ3 z (by omega) (by omega) (by omega)) hHμ
  have n3μ3 := jH_3 hHμ3
  have n2μ3 := jH_2 hHμ3
  refine jv_iconst rfl rfl ?_
  refine jv_istoreK (L2 := [some (.inr (.inr 49)), some (.inr (.inr 7)), some (.inl s), some (.inl q), some (.inl 0)]) rfl rfl rfl ?_
  refine cl_carIf_l hHμ3 hcf hb hq (fun μ2 f => k μ2 (fun z p => by rw [f z p, fμ3 z (by omega) (by omega) (by omega)])) 9 0 μ3 (by omega) hHμ.1.1.1 (by have := hHμ.1.1.2; omega) jμ3 (fun _ _ => rfl)
