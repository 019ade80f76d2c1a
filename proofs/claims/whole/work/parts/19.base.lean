set_option maxRecDepth 10000 in
theorem mo_in {X : jm_X} {d : Nat} {Q : jv_P} {μ : jm_M} {v a b : Int} (k1 : a ≤ v ∧ v ≤ b → Q [.inl 1] μ) (k0 : ¬ (a ≤ v ∧ v ≤ b) → Q [.inl 0] μ) : cV X (d + 1) 135 [.inr (.inl v), .inr (.inl a), .inr (.inl b)] μ Q := by
  refine jv_enter (d := d + 0) jm_p_X10_in [some (.inr (.inl v)), none, some (.inr (.inl a)), none, some (.inr (.inl b)), none] rfl rfl rfl (Nat.le_of_ble_eq_true rfl) rfl rfl ?_
  refine jv_lload_n rfl rfl rfl ?_
  refine jv_lload_n rfl rfl rfl ?_
  refine jv_lcmp rfl rfl ?_
  refine jv_if_lt rfl rfl rfl (fun c3 => ?_) (fun c3 => ?_)
  · refine jv_iconst rfl rfl ?_
    refine jv_ireturn rfl (Or.inr ⟨rfl, by decide⟩) ?_
    exact k0 (by split at * <;> omega)
  · refine jv_lload_n rfl rfl rfl ?_
    refine jv_lload rfl rfl rfl ?_
    refine jv_lcmp rfl rfl ?_
    refine jv_if_gt rfl rfl rfl (fun c7 => ?_) (fun c7 => ?_)
    · refine jv_iconst rfl rfl ?_
      refine jv_ireturn rfl (Or.inr ⟨rfl, by decide⟩) ?_
      exact k0 (by split at * <;> omega)
    · refine jv_iconst rfl rfl ?_
      refine jv_goto rfl rfl ?_
      refine jv_ireturn rfl (Or.inr ⟨rfl, by decide⟩) ?_
      exact k1 (by split at * <;> omega)
set_option maxRecDepth 10000 in
theorem mo_isRow {X : jm_X} {d : Nat} {Q : jv_P} {μ : jm_M} {r : Int} (k1 : 0 ≤ r ∧ r ≤ 7 → Q [.inl 1] μ) (k0 : ¬ (0 ≤ r ∧ r ≤ 7) → Q [.inl 0] μ) : cV X (d + 2) 140 [.inl r] μ Q := by
  refine jv_enter (d := d + 1) jm_p_X10_isRow [some (.inl r)] rfl rfl rfl (Nat.le_of_ble_eq_true rfl) rfl rfl ?_
  refine jv_iload_n rfl rfl rfl ?_
  refine jv_i2l rfl rfl ?_
  refine jv_lconst rfl rfl ?_
  refine jv_ldc2_w rfl rfl ?_
  refine jv_callS3 rfl rfl rfl (Nat.le_of_ble_eq_true rfl) (mo_in (fun b4 => ?_) (fun b4 => ?_))
  · show jV _ _ jm_p_X10_isRow _ 5 [some (.inl r)] [.inl 1] μ
    refine jv_ireturn rfl (Or.inr ⟨rfl, by decide⟩) ?_
    exact k1 (by omega)
  · show jV _ _ jm_p_X10_isRow _ 5 [some (.inl r)] [.inl 0] μ
    refine jv_ireturn rfl (Or.inr ⟨rfl, by decide⟩) ?_
    exact k0 (by omega)
set_option maxRecDepth 10000 in
theorem mo_find {X : jm_X} {d : Nat} {Q : jv_P} {μ : jm_M} {w : Int} (hw : 0 ≤ w ∧ w ≤ 9) (k : ∀ μ2, μ2 = jm_uc μ 94 (jm_u1 (μ 94) 10 w) → Q [.inl (-1000010 - w)] μ2) : cV X (d + 1) 138 [.inr (.inr 94), .inl w] μ Q := by
  refine jv_enter (d := d + 0) jm_p_X10_find [some (.inr (.inr 94)), some (.inl w)] rfl rfl rfl (Nat.le_of_ble_eq_true rfl) rfl rfl ?_
  refine jv_aload_n rfl rfl rfl (by decide) ?_
  refine jv_iload_n rfl rfl rfl ?_
  refine jv_puti rfl rfl rfl ⟨by decide, rfl⟩ (Or.inl rfl) (fun μ2 eμ2 => ?_)
  refine jv_ldc rfl rfl ?_
  refine jv_iload_n rfl rfl rfl ?_
  refine jv_isub rfl rfl ⟨by omega, by omega⟩ ?_
  refine jv_ireturn rfl (Or.inl rfl) ?_
  exact k _ eμ2
set_option maxRecDepth 10000 in
theorem mo_well {X : jm_X} {d : Nat} {Q : jv_P} {μ : jm_M} {w : Int} (k : ∀ μ2, μ2 = jm_uc μ 94 (jm_u1 (μ 94) 10 0) → Q [.inl w] μ2) : cV X (d + 1) 139 [.inr (.inr 94), .inl w] μ Q := by
  refine jv_enter (d := d + 0) jm_p_X10_well [some (.inr (.inr 94)), some (.inl w)] rfl rfl rfl (Nat.le_of_ble_eq_true rfl) rfl rfl ?_
  refine jv_aload_n rfl rfl rfl (by decide) ?_
  refine jv_iconst rfl rfl ?_
  refine jv_puti rfl rfl rfl ⟨by decide, rfl⟩ (Or.inl rfl) (fun μ2 eμ2 => ?_)
  refine jv_iload_n rfl rfl rfl ?_
  refine jv_ireturn rfl (Or.inl rfl) ?_
  exact k _ eμ2
set_option maxRecDepth 10000 in
theorem mo_narrow {X : jm_X} {d : Nat} {Q : jv_P} {μ : jm_M} {v l : Int} (k : Q [.inl (if l = 0 then v.bmod 256 else if l = 1 then v.bmod 65536 else v)] μ) : cV X (d + 1) 142 [.inl v, .inl l] μ Q := by
  refine jv_enter (d := d + 0) jm_p_X10_narrow [some (.inl v), some (.inl l)] rfl rfl rfl (Nat.le_of_ble_eq_true rfl) rfl rfl ?_
  refine jv_iload_n rfl rfl rfl ?_
  refine jv_if_ne rfl rfl rfl (fun c1 => ?_) (fun c1 => ?_)
  · refine jv_iload_n rfl rfl rfl ?_
    refine jv_iconst rfl rfl ?_
    refine jv_icmp_ne rfl rfl rfl (fun c7 => ?_) (fun c7 => ?_)
    · refine jv_iload_n rfl rfl rfl ?_
      refine jv_ireturn rfl (Or.inl rfl) ?_
      simp_all
    · refine jv_iload_n rfl rfl rfl ?_
      refine jv_i2s rfl rfl ?_
      refine jv_goto rfl rfl ?_
      refine jv_ireturn rfl (Or.inl rfl) ?_
      simp_all
  · refine jv_iload_n rfl rfl rfl ?_
    refine jv_i2b rfl rfl ?_
    refine jv_goto rfl rfl ?_
    refine jv_ireturn rfl (Or.inl rfl) ?_
    simp_all
