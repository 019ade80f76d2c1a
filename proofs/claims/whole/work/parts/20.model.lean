set_option maxRecDepth 10000 in
theorem mo_liesOn {X : jm_X} {d : Nat} {Q : jv_P} {μ : jm_M} {base m : Int} (hb : 0 ≤ base ∧ base ≤ 1674) (hm : 0 ≤ m ∧ m < 4) (hw : jt_wf (fun k => μ 95 (base + k))) (k : Q [.inl (jt_lies (fun k => μ 95 (base + k)) m)] μ) : cV X (d + 1) 166 [.inr (.inr 94), .inl base, .inl m] μ Q := by
  have hw2 := hw
  unfold jt_wf at hw2
  simp only [← Int.add_assoc] at hw2
  obtain ⟨w0, w1, w2, w3, w4, w6, w7, w8⟩ := hw2
  have hv : ∀ k, 0 ≤ k → k < 6 → 0 ≤ μ 95 (base + 8 + 6 * m + k) ∧ μ 95 (base + 8 + 6 * m + k) ≤ 60 := by
    intro k k0 k1
    have := w6 (8 + 6 * m + k) (by omega) (by omega)
    simp only [← Int.add_assoc] at this
    exact this
  have v0 := hv 0 (by decide) (by decide)
  have v1 := hv 1 (by decide) (by decide)
  have v2 := hv 2 (by decide) (by decide)
  have v3 := hv 3 (by decide) (by decide)
  have v4 := hv 4 (by decide) (by decide)
  have v5 := hv 5 (by decide) (by decide)
  refine jv_enter (d := d + 0) jm_p_X10_liesOn [some (.inr (.inr 94)), some (.inl base), some (.inl m), none, none] rfl rfl rfl (Nat.le_of_ble_eq_true rfl) rfl rfl ?_
  refine jv_iconst rfl rfl ?_
  refine jv_istore_nK (L2 := [some (.inr (.inr 94)), some (.inl base), some (.inl m), some (.inl 0), none]) rfl rfl rfl ?_
  refine jv_iconst rfl rfl ?_
  refine jv_istoreK (L2 := [some (.inr (.inr 94)), some (.inl base), some (.inl m), some (.inl 0), some (.inl 0)]) rfl rfl rfl ?_
  refine jv_iload rfl rfl rfl ?_
  refine jv_bipush rfl rfl ?_
  refine jv_icmp_geF rfl rfl (by decide) ?_
  refine jv_iload_n rfl rfl rfl ?_
  refine jv_aload_n rfl rfl rfl (by decide) ?_
  refine jv_getr (w := 95) rfl rfl rfl ⟨by decide, rfl⟩ rfl rfl ?_
  refine jv_iload_n rfl rfl rfl ?_
  refine jv_bipush rfl rfl ?_
  refine jv_iadd rfl rfl ⟨by omega, by omega⟩ ?_
  refine jv_bipush rfl rfl ?_
  refine jv_iload_n rfl rfl rfl ?_
  refine jv_imul rfl rfl ⟨by omega, by omega⟩ ?_
  refine jv_iadd rfl rfl ⟨by omega, by omega⟩ ?_
  refine jv_iload rfl rfl rfl ?_
  refine jv_iadd rfl rfl ⟨by omega, by omega⟩ ?_
  refine jv_iaload rfl rfl (by decide) rfl ⟨by omega, by omega⟩ ?_
  refine jv_iadd rfl rfl ⟨by omega, by omega⟩ ?_
  refine jv_istore_n (fun x => [some (.inr (.inr 94)), some (.inl base), some (.inl m), some (.inl x), some (.inl 0)]) rfl rfl (fun _ => rfl) (fun x3_21 ex3_21 => ?_)
  refine jv_iincK (L2 := [some (.inr (.inr 94)), some (.inl base), some (.inl m), some (.inl x3_21), some (.inl 1)]) rfl rfl rfl (by decide) rfl ?_
  refine jv_goto rfl rfl ?_
  refine jv_iload rfl rfl rfl ?_
  refine jv_bipush rfl rfl ?_
  refine jv_icmp_geF rfl rfl (by decide) ?_
  refine jv_iload_n rfl rfl rfl ?_
  refine jv_aload_n rfl rfl rfl (by decide) ?_
  refine jv_getr (w := 95) rfl rfl rfl ⟨by decide, rfl⟩ rfl rfl ?_
  refine jv_iload_n rfl rfl rfl ?_
  refine jv_bipush rfl rfl ?_
  refine jv_iadd rfl rfl ⟨by omega, by omega⟩ ?_
  refine jv_bipush rfl rfl ?_
  refine jv_iload_n rfl rfl rfl ?_
  refine jv_imul rfl rfl ⟨by omega, by omega⟩ ?_
  refine jv_iadd rfl rfl ⟨by omega, by omega⟩ ?_
  refine jv_iload rfl rfl rfl ?_
  refine jv_iadd rfl rfl ⟨by omega, by omega⟩ ?_
  refine jv_iaload rfl rfl (by decide) rfl ⟨by omega, by omega⟩ ?_
  refine jv_iadd rfl rfl ⟨by omega, by omega⟩ ?_
  refine jv_istore_n (fun x => [some (.inr (.inr 94)), some (.inl base), some (.inl m), some (.inl x), some (.inl 1)]) rfl rfl (fun _ => rfl) (fun x3_21_1 ex3_21_1 => ?_)
  refine jv_iincK (L2 := [some (.inr (.inr 94)), some (.inl base), some (.inl m), some (.inl x3_21_1), some (.inl 2)]) rfl rfl rfl (by decide) rfl ?_
  refine jv_goto rfl rfl ?_
  refine jv_iload rfl rfl rfl ?_
  refine jv_bipush rfl rfl ?_
  refine jv_icmp_geF rfl rfl (by decide) ?_
  refine jv_iload_n rfl rfl rfl ?_
  refine jv_aload_n rfl rfl rfl (by decide) ?_
  refine jv_getr (w := 95) rfl rfl rfl ⟨by decide, rfl⟩ rfl rfl ?_
  refine jv_iload_n rfl rfl rfl ?_
  refine jv_bipush rfl rfl ?_
  refine jv_iadd rfl rfl ⟨by omega, by omega⟩ ?_
  refine jv_bipush rfl rfl ?_
  refine jv_iload_n rfl rfl rfl ?_
  refine jv_imul rfl rfl ⟨by omega, by omega⟩ ?_
  refine jv_iadd rfl rfl ⟨by omega, by omega⟩ ?_
  refine jv_iload rfl rfl rfl ?_
  refine jv_iadd rfl rfl ⟨by omega, by omega⟩ ?_
  refine jv_iaload rfl rfl (by decide) rfl ⟨by omega, by omega⟩ ?_
  refine jv_iadd rfl rfl ⟨by omega, by omega⟩ ?_
  refine jv_istore_n (fun x => [some (.inr (.inr 94)), some (.inl base), some (.inl m), some (.inl x), some (.inl 2)]) rfl rfl (fun _ => rfl) (fun x3_21_2 ex3_21_2 => ?_)
  refine jv_iincK (L2 := [some (.inr (.inr 94)), some (.inl base), some (.inl m), some (.inl x3_21_2), some (.inl 3)]) rfl rfl rfl (by decide) rfl ?_
  refine jv_goto rfl rfl ?_
  refine jv_iload rfl rfl rfl ?_
  refine jv_bipush rfl rfl ?_
  refine jv_icmp_geF rfl rfl (by decide) ?_
  refine jv_iload_n rfl rfl rfl ?_
  refine jv_aload_n rfl rfl rfl (by decide) ?_
  refine jv_getr (w := 95) rfl rfl rfl ⟨by decide, rfl⟩ rfl rfl ?_
  refine jv_iload_n rfl rfl rfl ?_
  refine jv_bipush rfl rfl ?_
  refine jv_iadd rfl rfl ⟨by omega, by omega⟩ ?_
  refine jv_bipush rfl rfl ?_
  refine jv_iload_n rfl rfl rfl ?_
  refine jv_imul rfl rfl ⟨by omega, by omega⟩ ?_
  refine jv_iadd rfl rfl ⟨by omega, by omega⟩ ?_
  refine jv_iload rfl rfl rfl ?_
  refine jv_iadd rfl rfl ⟨by omega, by omega⟩ ?_
  refine jv_iaload rfl rfl (by decide) rfl ⟨by omega, by omega⟩ ?_
  refine jv_iadd rfl rfl ⟨by omega, by omega⟩ ?_
  refine jv_istore_n (fun x => [some (.inr (.inr 94)), some (.inl base), some (.inl m), some (.inl x), some (.inl 3)]) rfl rfl (fun _ => rfl) (fun x3_21_3 ex3_21_3 => ?_)
  refine jv_iincK (L2 := [some (.inr (.inr 94)), some (.inl base), some (.inl m), some (.inl x3_21_3), some (.inl 4)]) rfl rfl rfl (by decide) rfl ?_
  refine jv_goto rfl rfl ?_
  refine jv_iload rfl rfl rfl ?_
  refine jv_bipush rfl rfl ?_
  refine jv_icmp_geF rfl rfl (by decide) ?_
  refine jv_iload_n rfl rfl rfl ?_
  refine jv_aload_n rfl rfl rfl (by decide) ?_
  refine jv_getr (w := 95) rfl rfl rfl ⟨by decide, rfl⟩ rfl rfl ?_
  refine jv_iload_n rfl rfl rfl ?_
  refine jv_bipush rfl rfl ?_
  refine jv_iadd rfl rfl ⟨by omega, by omega⟩ ?_
  refine jv_bipush rfl rfl ?_
  refine jv_iload_n rfl rfl rfl ?_
  refine jv_imul rfl rfl ⟨by omega, by omega⟩ ?_
  refine jv_iadd rfl rfl ⟨by omega, by omega⟩ ?_
  refine jv_iload rfl rfl rfl ?_
  refine jv_iadd rfl rfl ⟨by omega, by omega⟩ ?_
  refine jv_iaload rfl rfl (by decide) rfl ⟨by omega, by omega⟩ ?_
  refine jv_iadd rfl rfl ⟨by omega, by omega⟩ ?_
  refine jv_istore_n (fun x => [some (.inr (.inr 94)), some (.inl base), some (.inl m), some (.inl x), some (.inl 4)]) rfl rfl (fun _ => rfl) (fun x3_21_4 ex3_21_4 => ?_)
  refine jv_iincK (L2 := [some (.inr (.inr 94)), some (.inl base), some (.inl m), some (.inl x3_21_4), some (.inl 5)]) rfl rfl rfl (by decide) rfl ?_
  refine jv_goto rfl rfl ?_
  refine jv_iload rfl rfl rfl ?_
  refine jv_bipush rfl rfl ?_
  refine jv_icmp_geF rfl rfl (by decide) ?_
  refine jv_iload_n rfl rfl rfl ?_
  refine jv_aload_n rfl rfl rfl (by decide) ?_
  refine jv_getr (w := 95) rfl rfl rfl ⟨by decide, rfl⟩ rfl rfl ?_
  refine jv_iload_n rfl rfl rfl ?_
  refine jv_bipush rfl rfl ?_
  refine jv_iadd rfl rfl ⟨by omega, by omega⟩ ?_
  refine jv_bipush rfl rfl ?_
  refine jv_iload_n rfl rfl rfl ?_
  refine jv_imul rfl rfl ⟨by omega, by omega⟩ ?_
  refine jv_iadd rfl rfl ⟨by omega, by omega⟩ ?_
  refine jv_iload rfl rfl rfl ?_
  refine jv_iadd rfl rfl ⟨by omega, by omega⟩ ?_
  refine jv_iaload rfl rfl (by decide) rfl ⟨by omega, by omega⟩ ?_
  refine jv_iadd rfl rfl ⟨by omega, by omega⟩ ?_
  refine jv_istore_n (fun x => [some (.inr (.inr 94)), some (.inl base), some (.inl m), some (.inl x), some (.inl 5)]) rfl rfl (fun _ => rfl) (fun x3_21_5 ex3_21_5 => ?_)
  refine jv_iincK (L2 := [some (.inr (.inr 94)), some (.inl base), some (.inl m), some (.inl x3_21_5), some (.inl 6)]) rfl rfl rfl (by decide) rfl ?_
  refine jv_goto rfl rfl ?_
  refine jv_iload rfl rfl rfl ?_
  refine jv_bipush rfl rfl ?_
  refine jv_icmp_geT rfl rfl (by decide) ?_
  refine jv_iload_n rfl rfl rfl ?_
  refine jv_ireturn rfl (Or.inl rfl) ?_
  have e : x3_21_5 = jt_lies (fun k => μ 95 (base + k)) m := by
    unfold jt_lies
    simp only [← Int.add_assoc]
    rw [Int.add_zero] at v0
    simp only [Int.add_zero] at *
    omega
  rw [e]
  exact k
set_option maxRecDepth 10000 in
theorem mo_leaves65 {X : jm_X} {d : Nat} {Q : jv_P} {μ : jm_M} {base c m yet mn x6 : Int} (hb : 0 ≤ base ∧ base ≤ 1674) (hc : 0 ≤ c ∧ c < 6) (hm : 0 ≤ m ∧ m < 4) (hy : 0 ≤ yet ∧ yet ≤ 60) (hw : jt_wf (fun k => μ 95 (base + k))) (h6 : 0 ≤ x6 ∧ x6 ≤ 60) (k : Q [.inl (min (min x6 yet) (μ 95 (base + 2) - jt_lies (fun k => μ 95 (base + k)) m))] μ) : jV X (d + 1) jm_p_X10_leavesOn Q 65 [some (.inr (.inr 94)), some (.inl base), some (.inl c), some (.inl m), some (.inl yet), some (.inl mn), some (.inl x6), none] [] μ := by
  have hw2 := hw
  unfold jt_wf at hw2
  simp only [← Int.add_assoc] at hw2
  obtain ⟨w0, w1, w2, w3, w4, w6, w7, w8⟩ := hw2
  have hl := jt_lies_r hw hm.1 hm.2
  refine jv_aload_n rfl rfl rfl (by decide) ?_
  refine jv_getr (w := 95) rfl rfl rfl ⟨by decide, rfl⟩ rfl rfl ?_
  refine jv_iload_n rfl rfl rfl ?_
  refine jv_iconst rfl rfl ?_
  refine jv_iadd rfl rfl ⟨by omega, by omega⟩ ?_
  refine jv_iaload rfl rfl (by decide) rfl ⟨by omega, by omega⟩ ?_
  refine jv_aload_n rfl rfl rfl (by decide) ?_
  refine jv_iload_n rfl rfl rfl ?_
  refine jv_iload_n rfl rfl rfl ?_
  refine jv_callV2 rfl rfl rfl rfl ⟨by decide, rfl⟩ (Nat.le_of_ble_eq_true rfl) (mo_liesOn (by omega) (by omega) (by assumption) ?_)
  show jV _ _ jm_p_X10_leavesOn _ 75 [some (.inr (.inr 94)), some (.inl base), some (.inl c), some (.inl m), some (.inl yet), some (.inl mn), some (.inl x6), none] [.inl (jt_lies (fun k => μ 95 (base + k)) m), .inl (μ 95 (base + 2))] μ
  refine jv_isub rfl rfl ⟨by omega, by omega⟩ ?_
  refine jv_istore (fun x => [some (.inr (.inr 94)), some (.inl base), some (.inl c), some (.inl m), some (.inl yet), some (.inl mn), some (.inl x6), some (.inl x)]) rfl rfl (fun _ => rfl) (fun x7_76 ex7_76 => ?_)
  refine jv_iload rfl rfl rfl ?_
  refine jv_iload rfl rfl rfl ?_
  refine jv_icmp_ge rfl rfl rfl (fun c79 => ?_) (fun c79 => ?_)
  · refine jv_iload rfl rfl rfl ?_
    refine jv_istore (fun x => [some (.inr (.inr 94)), some (.inl base), some (.inl c), some (.inl m), some (.inl yet), some (.inl mn), some (.inl x), some (.inl x7_76)]) rfl rfl (fun _ => rfl) (fun x6_83 ex6_83 => ?_)
    refine jv_iload rfl rfl rfl ?_
    refine jv_iload rfl rfl rfl ?_
    refine jv_icmp_ge rfl rfl rfl (fun c86 => ?_) (fun c86 => ?_)
    · refine jv_iload rfl rfl rfl ?_
      refine jv_ireturn rfl (Or.inl rfl) ?_
      have e : x7_76 = min (min x6 yet) (μ 95 (base + 2) - jt_lies (fun k => μ 95 (base + k)) m) := by omega
      rw [e]
      exact k
    · refine jv_iload rfl rfl rfl ?_
      refine jv_goto rfl rfl ?_
      refine jv_ireturn rfl (Or.inl rfl) ?_
      have e : x6_83 = min (min x6 yet) (μ 95 (base + 2) - jt_lies (fun k => μ 95 (base + k)) m) := by omega
      rw [e]
      exact k
  · refine jv_iload rfl rfl rfl ?_
    refine jv_goto rfl rfl ?_
    refine jv_istore (fun x => [some (.inr (.inr 94)), some (.inl base), some (.inl c), some (.inl m), some (.inl yet), some (.inl mn), some (.inl x), some (.inl x7_76)]) rfl rfl (fun _ => rfl) (fun x6_83_1 ex6_83_1 => ?_)
    refine jv_iload rfl rfl rfl ?_
    refine jv_iload rfl rfl rfl ?_
    refine jv_icmp_ge rfl rfl rfl (fun c86_1 => ?_) (fun c86_1 => ?_)
    · refine jv_iload rfl rfl rfl ?_
      refine jv_ireturn rfl (Or.inl rfl) ?_
      have e : x7_76 = min (min x6 yet) (μ 95 (base + 2) - jt_lies (fun k => μ 95 (base + k)) m) := by omega
      rw [e]
      exact k
    · refine jv_iload rfl rfl rfl ?_
      refine jv_goto rfl rfl ?_
      refine jv_ireturn rfl (Or.inl rfl) ?_
      have e : x6_83_1 = min (min x6 yet) (μ 95 (base + 2) - jt_lies (fun k => μ 95 (base + k)) m) := by omega
      rw [e]
      exact k
set_option maxRecDepth 10000 in
theorem mo_leavesOn {X : jm_X} {d : Nat} {Q : jv_P} {μ : jm_M} {base c m yet : Int} (hb : 0 ≤ base ∧ base ≤ 1674) (hc : 0 ≤ c ∧ c < 6) (hm : 0 ≤ m ∧ m < 4) (hy : 0 ≤ yet ∧ yet ≤ 60) (hw : jt_wf (fun k => μ 95 (base + k))) (k : Q [.inl (jt_by (fun k => μ 95 (base + k)) c m yet)] μ) : cV X (d + 2) 168 [.inr (.inr 94), .inl base, .inl c, .inl m, .inl yet] μ Q := by
  have hw2 := hw
  unfold jt_wf at hw2
  simp only [← Int.add_assoc] at hw2
  obtain ⟨w0, w1, w2, w3, w4, w6, w7, w8⟩ := hw2
  have hl := jt_lies_r hw hm.1 hm.2
  have w8c := w8 c hc.1 hc.2
  refine jv_enter (d := d + 1) jm_p_X10_leavesOn [some (.inr (.inr 94)), some (.inl base), some (.inl c), some (.inl m), some (.inl yet), none, none, none] rfl rfl rfl (Nat.le_of_ble_eq_true rfl) rfl rfl ?_
  refine jv_aload_n rfl rfl rfl (by decide) ?_
  refine jv_getr (w := 95) rfl rfl rfl ⟨by decide, rfl⟩ rfl rfl ?_
  refine jv_iload_n rfl rfl rfl ?_
  refine jv_bipush rfl rfl ?_
  refine jv_iadd rfl rfl ⟨by omega, by omega⟩ ?_
  refine jv_iload_n rfl rfl rfl ?_
  refine jv_iadd rfl rfl ⟨by omega, by omega⟩ ?_
  refine jv_iaload rfl rfl (by decide) rfl ⟨by omega, by omega⟩ ?_
  refine jv_istore (fun x => [some (.inr (.inr 94)), some (.inl base), some (.inl c), some (.inl m), some (.inl yet), some (.inl x), none, none]) rfl rfl (fun _ => rfl) (fun x5_8 ex5_8 => ?_)
  refine jv_iload rfl rfl rfl ?_
  refine jv_istore (fun x => [some (.inr (.inr 94)), some (.inl base), some (.inl c), some (.inl m), some (.inl yet), some (.inl x5_8), some (.inl x), none]) rfl rfl (fun _ => rfl) (fun x6_10 ex6_10 => ?_)
  refine jv_aload_n rfl rfl rfl (by decide) ?_
  refine jv_getr (w := 95) rfl rfl rfl ⟨by decide, rfl⟩ rfl rfl ?_
  refine jv_iload_n rfl rfl rfl ?_
  refine jv_bipush rfl rfl ?_
  refine jv_iadd rfl rfl ⟨by omega, by omega⟩ ?_
  refine jv_iload_n rfl rfl rfl ?_
  refine jv_iadd rfl rfl ⟨by omega, by omega⟩ ?_
  refine jv_iaload rfl rfl (by decide) rfl ⟨by omega, by omega⟩ ?_
  refine jv_tsw rfl (And.intro (fun s19 => ?_) (fun ns19_3 => (And.intro (fun s19 => ?_) (fun ns19_2 => (And.intro (fun s19 => ?_) (fun ns19_1 => (And.intro (fun s19 => ?_) (fun ns19 => (jm_sw_1 ?_)))))))))
  · refine jv_aload_n rfl rfl rfl (by decide) ?_
    refine jv_getr (w := 95) rfl rfl rfl ⟨by decide, rfl⟩ rfl rfl ?_
    refine jv_iload_n rfl rfl rfl ?_
    refine jv_iconst rfl rfl ?_
    refine jv_iadd rfl rfl ⟨by omega, by omega⟩ ?_
    refine jv_iload_n rfl rfl rfl ?_
    refine jv_iadd rfl rfl ⟨by omega, by omega⟩ ?_
    refine jv_iaload rfl rfl (by decide) rfl ⟨by omega, by omega⟩ ?_
    refine jv_aload_n rfl rfl rfl (by decide) ?_
    refine jv_getr (w := 95) rfl rfl rfl ⟨by decide, rfl⟩ rfl rfl ?_
    refine jv_iload_n rfl rfl rfl ?_
    refine jv_bipush rfl rfl ?_
    refine jv_iadd rfl rfl ⟨by omega, by omega⟩ ?_
    refine jv_iload_n rfl rfl rfl ?_
    refine jv_iadd rfl rfl ⟨by omega, by omega⟩ ?_
    refine jv_iaload rfl rfl (by decide) rfl ⟨by omega, by omega⟩ ?_
    refine jv_icmp_ne rfl rfl rfl (fun c36 => ?_) (fun c36 => ?_)
    · refine jv_iload rfl rfl rfl ?_
      refine jv_istore (fun x => [some (.inr (.inr 94)), some (.inl base), some (.inl c), some (.inl m), some (.inl yet), some (.inl x5_8), some (.inl x), none]) rfl rfl (fun _ => rfl) (fun x6_42 ex6_42 => ?_)
      refine jv_goto rfl rfl ?_
      refine mo_leaves65 (c := c) hb hc hm hy hw (by omega) ?_
      have e : min (min x6_42 yet) (μ 95 (base + 2) - jt_lies (fun k => μ 95 (base + k)) m) = jt_by (fun k => μ 95 (base + k)) c m yet := by
        unfold jt_by jt_wip
        simp only [← Int.add_assoc]
        (repeat' split) <;> omega
      rw [e]
      exact k
    · refine jv_iconst rfl rfl ?_
      refine jv_iload rfl rfl rfl ?_
      refine jv_imul rfl rfl ⟨by omega, by omega⟩ ?_
      refine jv_goto rfl rfl ?_
      refine jv_istore (fun x => [some (.inr (.inr 94)), some (.inl base), some (.inl c), some (.inl m), some (.inl yet), some (.inl x5_8), some (.inl x), none]) rfl rfl (fun _ => rfl) (fun x6_42_1 ex6_42_1 => ?_)
      refine jv_goto rfl rfl ?_
      refine mo_leaves65 (c := c) hb hc hm hy hw (by omega) ?_
      have e : min (min x6_42_1 yet) (μ 95 (base + 2) - jt_lies (fun k => μ 95 (base + k)) m) = jt_by (fun k => μ 95 (base + k)) c m yet := by
        unfold jt_by jt_wip
        simp only [← Int.add_assoc]
        (repeat' split) <;> omega
      rw [e]
      exact k
  · refine jv_iload_n rfl rfl rfl ?_
    refine jv_if_ne rfl rfl rfl (fun c45 => ?_) (fun c45 => ?_)
    · refine jv_iload rfl rfl rfl ?_
      refine jv_istore (fun x => [some (.inr (.inr 94)), some (.inl base), some (.inl c), some (.inl m), some (.inl yet), some (.inl x5_8), some (.inl x), none]) rfl rfl (fun _ => rfl) (fun x6_49 ex6_49 => ?_)
      refine jv_goto rfl rfl ?_
      refine mo_leaves65 (c := c) hb hc hm hy hw (by omega) ?_
      have e : min (min x6_49 yet) (μ 95 (base + 2) - jt_lies (fun k => μ 95 (base + k)) m) = jt_by (fun k => μ 95 (base + k)) c m yet := by
        unfold jt_by jt_wip
        simp only [← Int.add_assoc]
        (repeat' split) <;> omega
      rw [e]
      exact k
    · refine jv_iconst rfl rfl ?_
      refine jv_goto rfl rfl ?_
      refine jv_istoreK (L2 := [some (.inr (.inr 94)), some (.inl base), some (.inl c), some (.inl m), some (.inl yet), some (.inl x5_8), some (.inl 0), none]) rfl rfl rfl ?_
      refine jv_goto rfl rfl ?_
      refine mo_leaves65 (c := c) hb hc hm hy hw (by omega) ?_
      have e : min (min 0 yet) (μ 95 (base + 2) - jt_lies (fun k => μ 95 (base + k)) m) = jt_by (fun k => μ 95 (base + k)) c m yet := by
        unfold jt_by jt_wip
        simp only [← Int.add_assoc]
        (repeat' split) <;> omega
      rw [e]
      exact k
  · refine jv_iload_n rfl rfl rfl ?_
    refine jv_if_ne rfl rfl rfl (fun c52 => ?_) (fun c52 => ?_)
    · refine jv_iconst rfl rfl ?_
      refine jv_istoreK (L2 := [some (.inr (.inr 94)), some (.inl base), some (.inl c), some (.inl m), some (.inl yet), some (.inl x5_8), some (.inl 0), none]) rfl rfl rfl ?_
      refine jv_goto rfl rfl ?_
      refine mo_leaves65 (c := c) hb hc hm hy hw (by omega) ?_
      have e : min (min 0 yet) (μ 95 (base + 2) - jt_lies (fun k => μ 95 (base + k)) m) = jt_by (fun k => μ 95 (base + k)) c m yet := by
        unfold jt_by jt_wip
        simp only [← Int.add_assoc]
        (repeat' split) <;> omega
      rw [e]
      exact k
    · refine jv_iload rfl rfl rfl ?_
      refine jv_iconst rfl rfl ?_
      refine jv_idiv rfl rfl ⟨by omega, by omega⟩ ?_
      refine jv_goto rfl rfl ?_
      refine jv_istore (fun x => [some (.inr (.inr 94)), some (.inl base), some (.inl c), some (.inl m), some (.inl yet), some (.inl x5_8), some (.inl x), none]) rfl rfl (fun _ => rfl) (fun x6_58 ex6_58 => ?_)
      refine jv_goto rfl rfl ?_
      refine mo_leaves65 (c := c) hb hc hm hy hw (by omega) ?_
      have e : min (min x6_58 yet) (μ 95 (base + 2) - jt_lies (fun k => μ 95 (base + k)) m) = jt_by (fun k => μ 95 (base + k)) c m yet := by
        unfold jt_by jt_wip
        simp only [← Int.add_assoc]
        (repeat' split) <;> omega
      rw [e]
      exact k
  · refine jv_iload rfl rfl rfl ?_
    refine jv_iconst rfl rfl ?_
    refine jv_idiv rfl rfl ⟨by omega, by omega⟩ ?_
    refine jv_istore (fun x => [some (.inr (.inr 94)), some (.inl base), some (.inl c), some (.inl m), some (.inl yet), some (.inl x5_8), some (.inl x), none]) rfl rfl (fun _ => rfl) (fun x6_63 ex6_63 => ?_)
    refine jv_goto rfl rfl ?_
    refine mo_leaves65 (c := c) hb hc hm hy hw (by omega) ?_
    have e : min (min x6_63 yet) (μ 95 (base + 2) - jt_lies (fun k => μ 95 (base + k)) m) = jt_by (fun k => μ 95 (base + k)) c m yet := by
      unfold jt_by jt_wip
      simp only [← Int.add_assoc]
      (repeat' split) <;> omega
    rw [e]
    exact k
  · show jV _ _ jm_p_X10_leavesOn _ 65 [some (.inr (.inr 94)), some (.inl base), some (.inl c), some (.inl m), some (.inl yet), some (.inl x5_8), some (.inl x6_10), none] [] μ
    refine mo_leaves65 (c := c) hb hc hm hy hw (by omega) ?_
    have e : min (min x6_10 yet) (μ 95 (base + 2) - jt_lies (fun k => μ 95 (base + k)) m) = jt_by (fun k => μ 95 (base + k)) c m yet := by
      unfold jt_by jt_wip
      simp only [← Int.add_assoc]
      (repeat' split) <;> omega
    rw [e]
    exact k
/-- the town at a comes to b -/
def jt_cp (f : Int → Int) (a b n : Int) : Int → Int := fun j => if b ≤ j ∧ j < b + n then f (a + (j - b)) else f j
set_option maxRecDepth 10000 in
theorem mo_copyTown_l {X : jm_X} {d : Nat} {Q : jv_P} {a b : Int} (ha : 0 ≤ a ∧ a ≤ 1674) (hb : 0 ≤ b ∧ b ≤ 1674) (hab : a + 62 ≤ b ∨ b + 62 ≤ a ∨ a = b) {μ0 : jm_M} (k : Q [] (jm_uc μ0 95 (jt_cp (μ0 95) a b 62))) : ∀ (n : Nat) (x : Int) (μ : jm_M), 0 ≤ x → x ≤ 62 → 62 - x ≤ n → μ = jm_uc μ0 95 (jt_cp (μ0 95) a b x) →
    jV X d jm_p_X10_copyTown Q 2 [some (.inr (.inr 94)), some (.inl a), some (.inl b), some (.inl x)] [] μ := by
  intro n
  induction n with
  | zero =>
    intro x μ x0 x1 xn hμ
    have hx : x = 62 := by omega
    subst hx hμ
    refine jv_iload_n rfl rfl rfl ?_
    refine jv_bipush rfl rfl ?_
    refine jv_icmp_geT rfl rfl (by decide) ?_
    refine jv_return rfl ?_
    exact k
  | succ n ih =>
    intro x μ x0 x1 xn hμ
    refine jv_iload_n rfl rfl rfl ?_
    refine jv_bipush rfl rfl ?_
    refine jv_icmp_ge rfl rfl rfl (fun c4 => ?_) (fun c4 => ?_)
    · refine jv_return rfl ?_
      have hx : x = 62 := by omega
      subst hx hμ
      exact k
    · refine jv_aload_n rfl rfl rfl (by decide) ?_
      refine jv_getr (w := 95) rfl rfl rfl ⟨by decide, rfl⟩ rfl rfl ?_
      refine jv_iload_n rfl rfl rfl ?_
      refine jv_iload_n rfl rfl rfl ?_
      refine jv_iadd rfl rfl ⟨by omega, by omega⟩ ?_
      refine jv_aload_n rfl rfl rfl (by decide) ?_
      refine jv_getr (w := 95) rfl rfl rfl ⟨by decide, rfl⟩ rfl rfl ?_
      refine jv_iload_n rfl rfl rfl ?_
      refine jv_iload_n rfl rfl rfl ?_
      refine jv_iadd rfl rfl ⟨by omega, by omega⟩ ?_
      refine jv_iaload rfl rfl (by decide) rfl ⟨by omega, by omega⟩ ?_
      refine jv_iastore rfl rfl rfl (by decide) ⟨by omega, by omega⟩ (fun μ16 eμ16 => ?_)
      refine jv_iinc (fun x => [some (.inr (.inr 94)), some (.inl a), some (.inl b), some (.inl x)]) rfl rfl rfl ⟨by omega, by omega⟩ (fun _ => rfl) (fun x3_17 ex3_17 => ?_)
      refine jv_goto rfl rfl ?_
      refine ih x3_17 μ16 (by omega) (by omega) (by omega) ?_
      subst ex3_17 eμ16 hμ
      rw [jm_uc2]
      congr 1
      funext j
      simp only [jm_u1, jm_uc_self, jt_cp]
      by_cases hj : j = b + x
      · subst hj
        rw [if_pos rfl, if_neg (show ¬ (b ≤ a + x ∧ a + x < b + x) by omega), if_pos (show b ≤ b + x ∧ b + x < b + (x + 1) by omega), show b + x - b = x by omega]
      · rw [if_neg hj]
        by_cases hr : b ≤ j ∧ j < b + x
        · rw [if_pos hr, if_pos (by omega)]
        · rw [if_neg hr, if_neg (by omega)]

set_option maxRecDepth 10000 in
theorem mo_copyTown {X : jm_X} {d : Nat} {Q : jv_P} {μ : jm_M} {a b : Int} (ha : 0 ≤ a ∧ a ≤ 1674) (hb : 0 ≤ b ∧ b ≤ 1674) (hab : a + 62 ≤ b ∨ b + 62 ≤ a ∨ a = b) (k : Q [] (jm_uc μ 95 (jt_cp (μ 95) a b 62))) : cV X (d + 1) 161 [.inr (.inr 94), .inl a, .inl b] μ Q := by
  refine jv_enter (d := d + 0) jm_p_X10_copyTown [some (.inr (.inr 94)), some (.inl a), some (.inl b), none] rfl rfl rfl (Nat.le_of_ble_eq_true rfl) rfl rfl ?_
  refine jv_iconst rfl rfl ?_
  refine jv_istore_nK (L2 := [some (.inr (.inr 94)), some (.inl a), some (.inl b), some (.inl 0)]) rfl rfl rfl ?_
  refine mo_copyTown_l ha hb hab (μ0 := μ) k 62 0 μ (by omega) (by omega) (by omega) ?_
  have e : jt_cp (μ 95) a b 0 = μ 95 := by
    funext j
    unfold jt_cp
    rw [if_neg (by omega)]
  rw [e, jm_uc_id]
