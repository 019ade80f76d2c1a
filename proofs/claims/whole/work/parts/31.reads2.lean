set_option maxRecDepth 10000 in
set_option maxHeartbeats 1000000 in
theorem pr_soil {X : jm_X} {m : Int} {y : Int} (r_m : jm_r m) (r_y : jm_r y) : jp X 102 180 [.inl m, .inl y] := by
  intro μ hI
  obtain ⟨⟨hit, hlan⟩, ⟨ht0, ht1, ht2⟩, ⟨hr0, hr1, hr2⟩, ⟨hst, hfa⟩, htown, hidle, himg, hpast⟩ := id hI
  obtain ⟨hwf, hcf, hkd, hmat, hrel, hh01, hhot, hnc⟩ := id htown
  obtain ⟨⟨r0, r1, r2, r3⟩, rm, rz, rc⟩ := id hrel
  obtain ⟨w0, w1, w2, w3, w4, w6, w7, w8⟩ := id hwf
  have hrm : ∀ m, 0 ≤ m → m < μ 95 0 → μ (μ 8 m) 0 = μ 95 (4 + m) ∧ ∀ k, 0 ≤ k → k < 6 → μ (μ 8 m + 1) k = μ 95 (8 + 6 * m + k) := fun m a b => rm m a b
  refine jv_enter (d := 199) jm_p_X9_soil [some (.inr (.inr 0)), some (.inl m), some (.inl y)] rfl rfl rfl (Nat.le_of_ble_eq_true rfl) rfl rfl ?_
  refine jv_aload_n rfl rfl rfl (by decide) ?_
  refine jv_iload_n rfl rfl rfl ?_
  refine jv_callV1 rfl rfl rfl rfl ⟨by decide, rfl⟩ (Nat.le_of_ble_eq_true rfl) (cl_noMat (fun b2 => ?_) (fun b2 => ?_))
  · show jV _ _ jm_p_X9_soil _ 3 [some (.inr (.inr 0)), some (.inl m), some (.inl y)] [.inl 1] μ
    refine jv_if_neT rfl rfl (by decide) ?_
    refine jv_ldc rfl rfl ?_
    refine jv_ireturn rfl (Or.inl rfl) ?_
    refine ⟨_, rfl, ?_⟩
    refine jv_enter (d := 199) jm_p_X10_soil [some (.inr (.inr 94)), some (.inl m), some (.inl y)] rfl rfl rfl (Nat.le_of_ble_eq_true rfl) rfl rfl ?_
    refine jv_aload_n rfl rfl rfl (by decide) ?_
    refine jv_iload_n rfl rfl rfl ?_
    refine jv_callV1 rfl rfl rfl rfl ⟨by decide, rfl⟩ (Nat.le_of_ble_eq_true rfl) (mo_isMat (by omega) (fun b2 => ?_) (fun b2 => ?_))
    · show jV _ _ jm_p_X10_soil _ 3 [some (.inr (.inr 94)), some (.inl m), some (.inl y)] [.inl 1] μ
      refine jv_if_eqF rfl rfl (by decide) ?_
      refine jv_iload_n rfl rfl rfl ?_
      refine jv_i2l rfl rfl ?_
      refine jv_lconst rfl rfl ?_
      refine jv_ldc2_w rfl rfl ?_
      refine jv_callS3 rfl rfl rfl (Nat.le_of_ble_eq_true rfl) (mo_in (fun b8 => ?_) (fun b8 => ?_))
      · show jV _ _ jm_p_X10_soil _ 9 [some (.inr (.inr 94)), some (.inl m), some (.inl y)] [.inl 1] μ
        refine jv_if_eqF rfl rfl (by decide) ?_
        refine jv_aload_n rfl rfl rfl (by decide) ?_
        refine jv_getr (w := 95) rfl rfl rfl ⟨by decide, rfl⟩ rfl rfl ?_
        refine jv_bipush rfl rfl ?_
        refine jv_bipush rfl rfl ?_
        refine jv_iload_n rfl rfl rfl ?_
        refine jv_imul rfl rfl ⟨by omega, by omega⟩ ?_
        refine jv_iadd rfl rfl ⟨by omega, by omega⟩ ?_
        refine jv_iload_n rfl rfl rfl ?_
        refine jv_iadd rfl rfl ⟨by omega, by omega⟩ ?_
        refine jv_iaload rfl rfl (by decide) rfl ⟨by omega, by omega⟩ ?_
        refine jv_goto rfl rfl ?_
        refine jv_ireturn rfl (Or.inl rfl) ?_
        exact ⟨jv_one (by have h9 := fun a b => (hrm m a b).2 y; omega), hI⟩
      · show jV _ _ jm_p_X10_soil _ 9 [some (.inr (.inr 94)), some (.inl m), some (.inl y)] [.inl 0] μ
        refine jv_if_eqT rfl rfl (by decide) ?_
        refine jv_ldc rfl rfl ?_
        refine jv_ireturn rfl (Or.inl rfl) ?_
        exact ⟨jv_one (by have h9 := fun a b => (hrm m a b).2 y; omega), hI⟩
    · show jV _ _ jm_p_X10_soil _ 3 [some (.inr (.inr 94)), some (.inl m), some (.inl y)] [.inl 0] μ
      refine jv_if_eqT rfl rfl (by decide) ?_
      refine jv_ldc rfl rfl ?_
      refine jv_ireturn rfl (Or.inl rfl) ?_
      exact ⟨jv_one (by have h9 := fun a b => (hrm m a b).2 y; omega), hI⟩
  · show jV _ _ jm_p_X9_soil _ 3 [some (.inr (.inr 0)), some (.inl m), some (.inl y)] [.inl 0] μ
    refine jv_if_neF rfl rfl (by decide) ?_
    refine jv_iload_n rfl rfl rfl ?_
    refine jv_if_lt rfl rfl rfl (fun c5 => ?_) (fun c5 => ?_)
    · refine jv_ldc rfl rfl ?_
      refine jv_ireturn rfl (Or.inl rfl) ?_
      refine ⟨_, rfl, ?_⟩
      refine jv_enter (d := 199) jm_p_X10_soil [some (.inr (.inr 94)), some (.inl m), some (.inl y)] rfl rfl rfl (Nat.le_of_ble_eq_true rfl) rfl rfl ?_
      refine jv_aload_n rfl rfl rfl (by decide) ?_
      refine jv_iload_n rfl rfl rfl ?_
      refine jv_callV1 rfl rfl rfl rfl ⟨by decide, rfl⟩ (Nat.le_of_ble_eq_true rfl) (mo_isMat (by omega) (fun b2 => ?_) (fun b2 => ?_))
      · show jV _ _ jm_p_X10_soil _ 3 [some (.inr (.inr 94)), some (.inl m), some (.inl y)] [.inl 1] μ
        refine jv_if_eqF rfl rfl (by decide) ?_
        refine jv_iload_n rfl rfl rfl ?_
        refine jv_i2l rfl rfl ?_
        refine jv_lconst rfl rfl ?_
        refine jv_ldc2_w rfl rfl ?_
        refine jv_callS3 rfl rfl rfl (Nat.le_of_ble_eq_true rfl) (mo_in (fun b8 => ?_) (fun b8 => ?_))
        · show jV _ _ jm_p_X10_soil _ 9 [some (.inr (.inr 94)), some (.inl m), some (.inl y)] [.inl 1] μ
          refine jv_if_eqF rfl rfl (by decide) ?_
          refine jv_aload_n rfl rfl rfl (by decide) ?_
          refine jv_getr (w := 95) rfl rfl rfl ⟨by decide, rfl⟩ rfl rfl ?_
          refine jv_bipush rfl rfl ?_
          refine jv_bipush rfl rfl ?_
          refine jv_iload_n rfl rfl rfl ?_
          refine jv_imul rfl rfl ⟨by omega, by omega⟩ ?_
          refine jv_iadd rfl rfl ⟨by omega, by omega⟩ ?_
          refine jv_iload_n rfl rfl rfl ?_
          refine jv_iadd rfl rfl ⟨by omega, by omega⟩ ?_
          refine jv_iaload rfl rfl (by decide) rfl ⟨by omega, by omega⟩ ?_
          refine jv_goto rfl rfl ?_
          refine jv_ireturn rfl (Or.inl rfl) ?_
          exact ⟨jv_one (by have h9 := fun a b => (hrm m a b).2 y; omega), hI⟩
        · show jV _ _ jm_p_X10_soil _ 9 [some (.inr (.inr 94)), some (.inl m), some (.inl y)] [.inl 0] μ
          refine jv_if_eqT rfl rfl (by decide) ?_
          refine jv_ldc rfl rfl ?_
          refine jv_ireturn rfl (Or.inl rfl) ?_
          exact ⟨jv_one (by have h9 := fun a b => (hrm m a b).2 y; omega), hI⟩
      · show jV _ _ jm_p_X10_soil _ 3 [some (.inr (.inr 94)), some (.inl m), some (.inl y)] [.inl 0] μ
        refine jv_if_eqT rfl rfl (by decide) ?_
        refine jv_ldc rfl rfl ?_
        refine jv_ireturn rfl (Or.inl rfl) ?_
        exact ⟨jv_one (by have h9 := fun a b => (hrm m a b).2 y; omega), hI⟩
    · refine jv_iload_n rfl rfl rfl ?_
      refine jv_bipush rfl rfl ?_
      refine jv_icmp_lt rfl rfl rfl (fun c8 => ?_) (fun c8 => ?_)
      · refine jv_aload_n rfl rfl rfl (by decide) ?_
        refine jv_getr (w := 7) rfl rfl rfl ⟨by decide, rfl⟩ rfl rfl ?_
        refine jv_getr (w := 8) rfl rfl rfl ⟨by decide, rfl⟩ rfl rfl ?_
        refine jv_iload_n rfl rfl rfl ?_
        refine jv_aaload rfl rfl rfl ⟨by decide, by decide, by decide⟩ ⟨by omega, by omega⟩ ?_
        refine jv_getr (w := (μ 8 m) + 1) rfl rfl (jz_mat7 hmat (m := m) (by omega) (by omega)).1 ⟨(jz_mat7 hmat (m := m) (by omega) (by omega)).2.2.1, rfl⟩ rfl rfl ?_
        refine jv_iload_n rfl rfl rfl ?_
        refine jv_iaload rfl rfl (by have := (jz_mat7 hmat (m := m) (by omega) (by omega)).2.2; omega) (jz_mat7 hmat (m := m) (by omega) (by omega)).2.1 ⟨by omega, by omega⟩ ?_
        refine jv_ireturn rfl (Or.inl rfl) ?_
        refine ⟨_, rfl, ?_⟩
        refine jv_enter (d := 199) jm_p_X10_soil [some (.inr (.inr 94)), some (.inl m), some (.inl y)] rfl rfl rfl (Nat.le_of_ble_eq_true rfl) rfl rfl ?_
        refine jv_aload_n rfl rfl rfl (by decide) ?_
        refine jv_iload_n rfl rfl rfl ?_
        refine jv_callV1 rfl rfl rfl rfl ⟨by decide, rfl⟩ (Nat.le_of_ble_eq_true rfl) (mo_isMat (by omega) (fun b2 => ?_) (fun b2 => ?_))
        · show jV _ _ jm_p_X10_soil _ 3 [some (.inr (.inr 94)), some (.inl m), some (.inl y)] [.inl 1] μ
          refine jv_if_eqF rfl rfl (by decide) ?_
          refine jv_iload_n rfl rfl rfl ?_
          refine jv_i2l rfl rfl ?_
          refine jv_lconst rfl rfl ?_
          refine jv_ldc2_w rfl rfl ?_
          refine jv_callS3 rfl rfl rfl (Nat.le_of_ble_eq_true rfl) (mo_in (fun b8 => ?_) (fun b8 => ?_))
          · show jV _ _ jm_p_X10_soil _ 9 [some (.inr (.inr 94)), some (.inl m), some (.inl y)] [.inl 1] μ
            refine jv_if_eqF rfl rfl (by decide) ?_
            refine jv_aload_n rfl rfl rfl (by decide) ?_
            refine jv_getr (w := 95) rfl rfl rfl ⟨by decide, rfl⟩ rfl rfl ?_
            refine jv_bipush rfl rfl ?_
            refine jv_bipush rfl rfl ?_
            refine jv_iload_n rfl rfl rfl ?_
            refine jv_imul rfl rfl ⟨by omega, by omega⟩ ?_
            refine jv_iadd rfl rfl ⟨by omega, by omega⟩ ?_
            refine jv_iload_n rfl rfl rfl ?_
            refine jv_iadd rfl rfl ⟨by omega, by omega⟩ ?_
            refine jv_iaload rfl rfl (by decide) rfl ⟨by omega, by omega⟩ ?_
            refine jv_goto rfl rfl ?_
            refine jv_ireturn rfl (Or.inl rfl) ?_
            exact ⟨jv_one (by have h9 := fun a b => (hrm m a b).2 y; omega), hI⟩
          · show jV _ _ jm_p_X10_soil _ 9 [some (.inr (.inr 94)), some (.inl m), some (.inl y)] [.inl 0] μ
            refine jv_if_eqT rfl rfl (by decide) ?_
            refine jv_ldc rfl rfl ?_
            refine jv_ireturn rfl (Or.inl rfl) ?_
            exact ⟨jv_one (by have h9 := fun a b => (hrm m a b).2 y; omega), hI⟩
        · show jV _ _ jm_p_X10_soil _ 3 [some (.inr (.inr 94)), some (.inl m), some (.inl y)] [.inl 0] μ
          refine jv_if_eqT rfl rfl (by decide) ?_
          refine jv_ldc rfl rfl ?_
          refine jv_ireturn rfl (Or.inl rfl) ?_
          exact ⟨jv_one (by have h9 := fun a b => (hrm m a b).2 y; omega), hI⟩
      · refine jv_ldc rfl rfl ?_
        refine jv_ireturn rfl (Or.inl rfl) ?_
        refine ⟨_, rfl, ?_⟩
        refine jv_enter (d := 199) jm_p_X10_soil [some (.inr (.inr 94)), some (.inl m), some (.inl y)] rfl rfl rfl (Nat.le_of_ble_eq_true rfl) rfl rfl ?_
        refine jv_aload_n rfl rfl rfl (by decide) ?_
        refine jv_iload_n rfl rfl rfl ?_
        refine jv_callV1 rfl rfl rfl rfl ⟨by decide, rfl⟩ (Nat.le_of_ble_eq_true rfl) (mo_isMat (by omega) (fun b2 => ?_) (fun b2 => ?_))
        · show jV _ _ jm_p_X10_soil _ 3 [some (.inr (.inr 94)), some (.inl m), some (.inl y)] [.inl 1] μ
          refine jv_if_eqF rfl rfl (by decide) ?_
          refine jv_iload_n rfl rfl rfl ?_
          refine jv_i2l rfl rfl ?_
          refine jv_lconst rfl rfl ?_
          refine jv_ldc2_w rfl rfl ?_
          refine jv_callS3 rfl rfl rfl (Nat.le_of_ble_eq_true rfl) (mo_in (fun b8 => ?_) (fun b8 => ?_))
          · show jV _ _ jm_p_X10_soil _ 9 [some (.inr (.inr 94)), some (.inl m), some (.inl y)] [.inl 1] μ
            refine jv_if_eqF rfl rfl (by decide) ?_
            refine jv_aload_n rfl rfl rfl (by decide) ?_
            refine jv_getr (w := 95) rfl rfl rfl ⟨by decide, rfl⟩ rfl rfl ?_
            refine jv_bipush rfl rfl ?_
            refine jv_bipush rfl rfl ?_
            refine jv_iload_n rfl rfl rfl ?_
            refine jv_imul rfl rfl ⟨by omega, by omega⟩ ?_
            refine jv_iadd rfl rfl ⟨by omega, by omega⟩ ?_
            refine jv_iload_n rfl rfl rfl ?_
            refine jv_iadd rfl rfl ⟨by omega, by omega⟩ ?_
            refine jv_iaload rfl rfl (by decide) rfl ⟨by omega, by omega⟩ ?_
            refine jv_goto rfl rfl ?_
            refine jv_ireturn rfl (Or.inl rfl) ?_
            exact ⟨jv_one (by have h9 := fun a b => (hrm m a b).2 y; omega), hI⟩
          · show jV _ _ jm_p_X10_soil _ 9 [some (.inr (.inr 94)), some (.inl m), some (.inl y)] [.inl 0] μ
            refine jv_if_eqT rfl rfl (by decide) ?_
            refine jv_ldc rfl rfl ?_
            refine jv_ireturn rfl (Or.inl rfl) ?_
            exact ⟨jv_one (by have h9 := fun a b => (hrm m a b).2 y; omega), hI⟩
        · show jV _ _ jm_p_X10_soil _ 3 [some (.inr (.inr 94)), some (.inl m), some (.inl y)] [.inl 0] μ
          refine jv_if_eqT rfl rfl (by decide) ?_
          refine jv_ldc rfl rfl ?_
          refine jv_ireturn rfl (Or.inl rfl) ?_
          exact ⟨jv_one (by have h9 := fun a b => (hrm m a b).2 y; omega), hI⟩
set_option maxRecDepth 10000 in
theorem cl_traced {X : jm_X} {d : Nat} {Q : jv_P} {μ : jm_M} {y : Int} (h1 : 0 ≤ μ 58 1 ∧ μ 58 1 ≤ 16) (k1 : 0 ≤ y ∧ y < μ 58 1 → Q [.inl (μ 59 y)] μ) (k0 : ¬ (0 ≤ y ∧ y < μ 58 1) → Q [.inl (-1000000)] μ) : cV X (d + 1) 2 [.inr (.inr 58), .inl y] μ Q := by
  refine jv_enter (d := d + 0) jm_p_X0_traced [some (.inr (.inr 58)), some (.inl y)] rfl rfl rfl (Nat.le_of_ble_eq_true rfl) rfl rfl ?_
  refine jv_iload_n rfl rfl rfl ?_
  refine jv_if_lt rfl rfl rfl (fun c1 => ?_) (fun c1 => ?_)
  · refine jv_ldc rfl rfl ?_
    refine jv_ireturn rfl (Or.inl rfl) ?_
    exact k0 (by omega)
  · refine jv_iload_n rfl rfl rfl ?_
    refine jv_aload_n rfl rfl rfl (by decide) ?_
    refine jv_geti rfl rfl rfl ⟨by decide, rfl⟩ (by decide) ?_
    refine jv_icmp_ge rfl rfl rfl (fun c5 => ?_) (fun c5 => ?_)
    · refine jv_ldc rfl rfl ?_
      refine jv_ireturn rfl (Or.inl rfl) ?_
      exact k0 (by omega)
    · refine jv_aload_n rfl rfl rfl (by decide) ?_
      refine jv_getr (w := 59) rfl rfl rfl ⟨by decide, rfl⟩ rfl rfl ?_
      refine jv_iload_n rfl rfl rfl ?_
      refine jv_iaload rfl rfl (by decide) rfl ⟨by omega, by omega⟩ ?_
      refine jv_goto rfl rfl ?_
      refine jv_ireturn rfl (Or.inl rfl) ?_
      exact k1 (by omega)
set_option maxRecDepth 10000 in
set_option maxHeartbeats 1000000 in
theorem pr_trace {X : jm_X} {y : Int} (r_y : jm_r y) : jp X 121 219 [.inl y] := by
  intro μ hI
  obtain ⟨⟨hit, hlan⟩, ⟨ht0, ht1, ht2⟩, ⟨hr0, hr1, hr2⟩, ⟨hst, hfa⟩, htown, hidle, himg, hpast⟩ := id hI
  obtain ⟨hwf, hcf, hkd, hmat, hrel, hh01, hhot, hnc⟩ := id htown
  obtain ⟨⟨r0, r1, r2, r3⟩, rm, rz, rc⟩ := id hrel
  obtain ⟨w0, w1, w2, w3, w4, w6, w7, w8⟩ := id hwf
  refine jv_enter (d := 199) jm_p_X9_trace [some (.inr (.inr 0)), some (.inl y)] rfl rfl rfl (Nat.le_of_ble_eq_true rfl) rfl rfl ?_
  refine jv_aload_n rfl rfl rfl (by decide) ?_
  refine jv_getr (w := 58) rfl rfl rfl ⟨by decide, rfl⟩ rfl rfl ?_
  refine jv_iload_n rfl rfl rfl ?_
  refine jv_callV1 rfl rfl rfl rfl ⟨by decide, rfl⟩ (Nat.le_of_ble_eq_true rfl) (cl_traced (by omega) (fun b3 => ?_) (fun b3 => ?_))
  · show jV _ _ jm_p_X9_trace _ 4 [some (.inr (.inr 0)), some (.inl y)] [.inl (μ 59 y)] μ
    refine jv_ireturn rfl (Or.inl rfl) ?_
    refine ⟨_, rfl, ?_⟩
    refine jv_enter (d := 199) jm_p_X10_trace [some (.inr (.inr 94)), some (.inl y)] rfl rfl rfl (Nat.le_of_ble_eq_true rfl) rfl rfl ?_
    refine jv_iload_n rfl rfl rfl ?_
    refine jv_i2l rfl rfl ?_
    refine jv_lconst rfl rfl ?_
    refine jv_aload_n rfl rfl rfl (by decide) ?_
    refine jv_geti rfl rfl rfl ⟨by decide, rfl⟩ (by decide) ?_
    refine jv_iconst rfl rfl ?_
    refine jv_isub rfl rfl ⟨by omega, by omega⟩ ?_
    refine jv_i2l rfl rfl ?_
    refine jv_callS3 rfl rfl rfl (Nat.le_of_ble_eq_true rfl) (mo_in (fun b8 => ?_) (fun b8 => ?_))
    · show jV _ _ jm_p_X10_trace _ 9 [some (.inr (.inr 94)), some (.inl y)] [.inl 1] μ
      refine jv_if_eqF rfl rfl (by decide) ?_
      refine jv_aload_n rfl rfl rfl (by decide) ?_
      refine jv_getr (w := 101) rfl rfl rfl ⟨by decide, rfl⟩ rfl rfl ?_
      refine jv_iload_n rfl rfl rfl ?_
      refine jv_iaload rfl rfl (by decide) rfl ⟨by omega, by omega⟩ ?_
      refine jv_goto rfl rfl ?_
      refine jv_ireturn rfl (Or.inl rfl) ?_
      exact ⟨jv_one (by have h9 := hr2 y; omega), hI⟩
    · show jV _ _ jm_p_X10_trace _ 9 [some (.inr (.inr 94)), some (.inl y)] [.inl 0] μ
      refine jv_if_eqT rfl rfl (by decide) ?_
      refine jv_ldc rfl rfl ?_
      refine jv_ireturn rfl (Or.inl rfl) ?_
      exact ⟨jv_one (by have h9 := hr2 y; omega), hI⟩
  · show jV _ _ jm_p_X9_trace _ 4 [some (.inr (.inr 0)), some (.inl y)] [.inl (-1000000)] μ
    refine jv_ireturn rfl (Or.inl rfl) ?_
    refine ⟨_, rfl, ?_⟩
    refine jv_enter (d := 199) jm_p_X10_trace [some (.inr (.inr 94)), some (.inl y)] rfl rfl rfl (Nat.le_of_ble_eq_true rfl) rfl rfl ?_
    refine jv_iload_n rfl rfl rfl ?_
    refine jv_i2l rfl rfl ?_
    refine jv_lconst rfl rfl ?_
    refine jv_aload_n rfl rfl rfl (by decide) ?_
    refine jv_geti rfl rfl rfl ⟨by decide, rfl⟩ (by decide) ?_
    refine jv_iconst rfl rfl ?_
    refine jv_isub rfl rfl ⟨by omega, by omega⟩ ?_
    refine jv_i2l rfl rfl ?_
    refine jv_callS3 rfl rfl rfl (Nat.le_of_ble_eq_true rfl) (mo_in (fun b8 => ?_) (fun b8 => ?_))
    · show jV _ _ jm_p_X10_trace _ 9 [some (.inr (.inr 94)), some (.inl y)] [.inl 1] μ
      refine jv_if_eqF rfl rfl (by decide) ?_
      refine jv_aload_n rfl rfl rfl (by decide) ?_
      refine jv_getr (w := 101) rfl rfl rfl ⟨by decide, rfl⟩ rfl rfl ?_
      refine jv_iload_n rfl rfl rfl ?_
      refine jv_iaload rfl rfl (by decide) rfl ⟨by omega, by omega⟩ ?_
      refine jv_goto rfl rfl ?_
      refine jv_ireturn rfl (Or.inl rfl) ?_
      exact ⟨jv_one (by have h9 := hr2 y; omega), hI⟩
    · show jV _ _ jm_p_X10_trace _ 9 [some (.inr (.inr 94)), some (.inl y)] [.inl 0] μ
      refine jv_if_eqT rfl rfl (by decide) ?_
      refine jv_ldc rfl rfl ?_
      refine jv_ireturn rfl (Or.inl rfl) ?_
      exact ⟨jv_one (by have h9 := hr2 y; omega), hI⟩
def jt_one (t : Int → Int) (a b : Int) : Prop := t 3 ≤ t (8 + 6 * a + t (4 + b)) ∧ t 3 ≤ t (8 + 6 * b + t (4 + a))
set_option maxRecDepth 10000 in
theorem cl_areAtOne {X : jm_X} {d : Nat} {Q : jv_P} {μ : jm_M} {a b : Int} {t : Int → Int} (hmat : jh_mats μ 7) (hr : jh_rel μ 7 t) (hw : jt_wf t) (ha : 0 ≤ a ∧ a < t 0) (hb : 0 ≤ b ∧ b < t 0)  (k1 : jt_one t a b → Q [.inl 1] μ) (k0 : ¬ jt_one t a b → Q [.inl 0] μ) : cV X (d + 1) 46 [.inr (.inr 7), .inl a, .inl b] μ Q := by
  obtain ⟨⟨r0, r1, r2, r3⟩, rm, -, -⟩ := id hr
  obtain ⟨w0, w1, w2, w3, w4, w6, w7, w8⟩ := id hw
  have hrm : ∀ m, 0 ≤ m → m < t 0 → μ (μ 8 m) 0 = t (4 + m) ∧ ∀ k, 0 ≤ k → k < 6 → μ (μ 8 m + 1) k = t (8 + 6 * m + k) := fun m a b => rm m a b
  have ca := (hrm a ha.1 ha.2).1
  have cb := (hrm b hb.1 hb.2).1
  have wa := w4 a ha.1 (by omega)
  have wb := w4 b hb.1 (by omega)
  have sa := (hrm a ha.1 ha.2).2 (t (4 + b)) (by omega) (by omega)
  have sb := (hrm b hb.1 hb.2).2 (t (4 + a)) (by omega) (by omega)
  rw [← cb] at sa
  rw [← ca] at sb
  refine jv_enter (d := d + 0) jm_p_X4_areAtOne [some (.inr (.inr 7)), some (.inl a), some (.inl b)] rfl rfl rfl (Nat.le_of_ble_eq_true rfl) rfl rfl ?_
  refine jv_aload_n rfl rfl rfl (by decide) ?_
  refine jv_getr (w := 8) rfl rfl rfl ⟨by decide, rfl⟩ rfl rfl ?_
  refine jv_iload_n rfl rfl rfl ?_
  refine jv_aaload rfl rfl rfl ⟨by decide, by decide, by decide⟩ ⟨by omega, by omega⟩ ?_
  refine jv_getr (w := (μ 8 a) + 1) rfl rfl (jz_mat7 hmat (m := a) (by omega) (by omega)).1 ⟨(jz_mat7 hmat (m := a) (by omega) (by omega)).2.2.1, rfl⟩ rfl rfl ?_
  refine jv_aload_n rfl rfl rfl (by decide) ?_
  refine jv_getr (w := 8) rfl rfl rfl ⟨by decide, rfl⟩ rfl rfl ?_
  refine jv_iload_n rfl rfl rfl ?_
  refine jv_aaload rfl rfl rfl ⟨by decide, by decide, by decide⟩ ⟨by omega, by omega⟩ ?_
  refine jv_geti rfl rfl (jz_mat7 hmat (m := b) (by omega) (by omega)).1 ⟨(jz_mat7 hmat (m := b) (by omega) (by omega)).2.2.1, rfl⟩ (by decide) ?_
  refine jv_iaload rfl rfl (by have := (jz_mat7 hmat (m := a) (by omega) (by omega)).2.2; omega) (jz_mat7 hmat (m := a) (by omega) (by omega)).2.1 ⟨by omega, by omega⟩ ?_
  refine jv_aload_n rfl rfl rfl (by decide) ?_
  refine jv_geti rfl rfl rfl ⟨by decide, rfl⟩ (by decide) ?_
  refine jv_icmp_lt rfl rfl rfl (fun c13 => ?_) (fun c13 => ?_)
  · refine jv_iconst rfl rfl ?_
    refine jv_ireturn rfl (Or.inr ⟨rfl, by decide⟩) ?_
    exact k0 (by unfold jt_one; rw [← cb, ← ca]; omega)
  · refine jv_aload_n rfl rfl rfl (by decide) ?_
    refine jv_getr (w := 8) rfl rfl rfl ⟨by decide, rfl⟩ rfl rfl ?_
    refine jv_iload_n rfl rfl rfl ?_
    refine jv_aaload rfl rfl rfl ⟨by decide, by decide, by decide⟩ ⟨by omega, by omega⟩ ?_
    refine jv_getr (w := (μ 8 b) + 1) rfl rfl (jz_mat7 hmat (m := b) (by omega) (by omega)).1 ⟨(jz_mat7 hmat (m := b) (by omega) (by omega)).2.2.1, rfl⟩ rfl rfl ?_
    refine jv_aload_n rfl rfl rfl (by decide) ?_
    refine jv_getr (w := 8) rfl rfl rfl ⟨by decide, rfl⟩ rfl rfl ?_
    refine jv_iload_n rfl rfl rfl ?_
    refine jv_aaload rfl rfl rfl ⟨by decide, by decide, by decide⟩ ⟨by omega, by omega⟩ ?_
    refine jv_geti rfl rfl (jz_mat7 hmat (m := a) (by omega) (by omega)).1 ⟨(jz_mat7 hmat (m := a) (by omega) (by omega)).2.2.1, rfl⟩ (by decide) ?_
    refine jv_iaload rfl rfl (by have := (jz_mat7 hmat (m := b) (by omega) (by omega)).2.2; omega) (jz_mat7 hmat (m := b) (by omega) (by omega)).2.1 ⟨by omega, by omega⟩ ?_
    refine jv_aload_n rfl rfl rfl (by decide) ?_
    refine jv_geti rfl rfl rfl ⟨by decide, rfl⟩ (by decide) ?_
    refine jv_icmp_lt rfl rfl rfl (fun c27 => ?_) (fun c27 => ?_)
    · refine jv_iconst rfl rfl ?_
      refine jv_ireturn rfl (Or.inr ⟨rfl, by decide⟩) ?_
      exact k0 (by unfold jt_one; rw [← cb, ← ca]; omega)
    · refine jv_iconst rfl rfl ?_
      refine jv_goto rfl rfl ?_
      refine jv_ireturn rfl (Or.inr ⟨rfl, by decide⟩) ?_
      exact k1 (by unfold jt_one; rw [← cb, ← ca]; omega)
set_option maxRecDepth 10000 in
theorem mo_areAtOne {X : jm_X} {d : Nat} {Q : jv_P} {μ : jm_M} {base a b : Int} (hbs : 0 ≤ base ∧ base ≤ 1674) (ha : 0 ≤ a ∧ a < 4) (hb : 0 ≤ b ∧ b < 4) (hw : jt_wf (fun k => μ 95 (base + k)))  (k1 : a ≠ b ∧ jt_one (fun k => μ 95 (base + k)) a b → Q [.inl 1] μ) (k0 : ¬ (a ≠ b ∧ jt_one (fun k => μ 95 (base + k)) a b) → Q [.inl 0] μ) : cV X (d + 1) 171 [.inr (.inr 94), .inl base, .inl a, .inl b] μ Q := by
  obtain ⟨w0, w1, w2, w3, w4, w6, w7, w8⟩ := id hw
  have w4a := w4 a ha.1 ha.2
  have w4b := w4 b hb.1 hb.2
  simp only [← Int.add_assoc] at w4a w4b
  dsimp only at w3
  refine jv_enter (d := d + 0) jm_p_X10_areAtOne [some (.inr (.inr 94)), some (.inl base), some (.inl a), some (.inl b), none, none] rfl rfl rfl (Nat.le_of_ble_eq_true rfl) rfl rfl ?_
  refine jv_aload_n rfl rfl rfl (by decide) ?_
  refine jv_getr (w := 95) rfl rfl rfl ⟨by decide, rfl⟩ rfl rfl ?_
  refine jv_iload_n rfl rfl rfl ?_
  refine jv_bipush rfl rfl ?_
  refine jv_iadd rfl rfl ⟨by omega, by omega⟩ ?_
  refine jv_bipush rfl rfl ?_
  refine jv_iload_n rfl rfl rfl ?_
  refine jv_imul rfl rfl ⟨by omega, by omega⟩ ?_
  refine jv_iadd rfl rfl ⟨by omega, by omega⟩ ?_
  refine jv_aload_n rfl rfl rfl (by decide) ?_
  refine jv_getr (w := 95) rfl rfl rfl ⟨by decide, rfl⟩ rfl rfl ?_
  refine jv_iload_n rfl rfl rfl ?_
  refine jv_iconst rfl rfl ?_
  refine jv_iadd rfl rfl ⟨by omega, by omega⟩ ?_
  refine jv_iload_n rfl rfl rfl ?_
  refine jv_iadd rfl rfl ⟨by omega, by omega⟩ ?_
  refine jv_iaload rfl rfl (by decide) rfl ⟨by omega, by omega⟩ ?_
  refine jv_iadd rfl rfl ⟨by omega, by omega⟩ ?_
  refine jv_iaload rfl rfl (by decide) rfl ⟨by omega, by omega⟩ ?_
  refine jv_aload_n rfl rfl rfl (by decide) ?_
  refine jv_getr (w := 95) rfl rfl rfl ⟨by decide, rfl⟩ rfl rfl ?_
  refine jv_iload_n rfl rfl rfl ?_
  refine jv_iconst rfl rfl ?_
  refine jv_iadd rfl rfl ⟨by omega, by omega⟩ ?_
  refine jv_iaload rfl rfl (by decide) rfl ⟨by omega, by omega⟩ ?_
  refine jv_icmp_lt rfl rfl rfl (fun c25 => ?_) (fun c25 => ?_)
  · refine jv_iconst rfl rfl ?_
    refine jv_istoreK (L2 := [some (.inr (.inr 94)), some (.inl base), some (.inl a), some (.inl b), some (.inl 0), none]) rfl rfl rfl ?_
    refine jv_aload_n rfl rfl rfl (by decide) ?_
    refine jv_getr (w := 95) rfl rfl rfl ⟨by decide, rfl⟩ rfl rfl ?_
    refine jv_iload_n rfl rfl rfl ?_
    refine jv_bipush rfl rfl ?_
    refine jv_iadd rfl rfl ⟨by omega, by omega⟩ ?_
    refine jv_bipush rfl rfl ?_
    refine jv_iload_n rfl rfl rfl ?_
    refine jv_imul rfl rfl ⟨by omega, by omega⟩ ?_
    refine jv_iadd rfl rfl ⟨by omega, by omega⟩ ?_
    refine jv_aload_n rfl rfl rfl (by decide) ?_
    refine jv_getr (w := 95) rfl rfl rfl ⟨by decide, rfl⟩ rfl rfl ?_
    refine jv_iload_n rfl rfl rfl ?_
    refine jv_iconst rfl rfl ?_
    refine jv_iadd rfl rfl ⟨by omega, by omega⟩ ?_
    refine jv_iload_n rfl rfl rfl ?_
    refine jv_iadd rfl rfl ⟨by omega, by omega⟩ ?_
    refine jv_iaload rfl rfl (by decide) rfl ⟨by omega, by omega⟩ ?_
    refine jv_iadd rfl rfl ⟨by omega, by omega⟩ ?_
    refine jv_iaload rfl rfl (by decide) rfl ⟨by omega, by omega⟩ ?_
    refine jv_aload_n rfl rfl rfl (by decide) ?_
    refine jv_getr (w := 95) rfl rfl rfl ⟨by decide, rfl⟩ rfl rfl ?_
    refine jv_iload_n rfl rfl rfl ?_
    refine jv_iconst rfl rfl ?_
    refine jv_iadd rfl rfl ⟨by omega, by omega⟩ ?_
    refine jv_iaload rfl rfl (by decide) rfl ⟨by omega, by omega⟩ ?_
    refine jv_icmp_lt rfl rfl rfl (fun c55 => ?_) (fun c55 => ?_)
    · refine jv_iconst rfl rfl ?_
      refine jv_istoreK (L2 := [some (.inr (.inr 94)), some (.inl base), some (.inl a), some (.inl b), some (.inl 0), some (.inl 0)]) rfl rfl rfl ?_
      refine jv_iload_n rfl rfl rfl ?_
      refine jv_iload_n rfl rfl rfl ?_
      refine jv_icmp_eq rfl rfl rfl (fun c62 => ?_) (fun c62 => ?_)
      · refine jv_iconst rfl rfl ?_
        refine jv_ireturn rfl (Or.inr ⟨rfl, by decide⟩) ?_
        exact k0 (by unfold jt_one; simp only [← Int.add_assoc]; omega)
      · refine jv_iload rfl rfl rfl ?_
        refine jv_if_eqT rfl rfl (by decide) ?_
        refine jv_iconst rfl rfl ?_
        refine jv_ireturn rfl (Or.inr ⟨rfl, by decide⟩) ?_
        exact k0 (by unfold jt_one; simp only [← Int.add_assoc]; omega)
    · refine jv_iconst rfl rfl ?_
      refine jv_goto rfl rfl ?_
      refine jv_istoreK (L2 := [some (.inr (.inr 94)), some (.inl base), some (.inl a), some (.inl b), some (.inl 0), some (.inl 1)]) rfl rfl rfl ?_
      refine jv_iload_n rfl rfl rfl ?_
      refine jv_iload_n rfl rfl rfl ?_
      refine jv_icmp_eq rfl rfl rfl (fun c62_1 => ?_) (fun c62_1 => ?_)
      · refine jv_iconst rfl rfl ?_
        refine jv_ireturn rfl (Or.inr ⟨rfl, by decide⟩) ?_
        exact k0 (by unfold jt_one; simp only [← Int.add_assoc]; omega)
      · refine jv_iload rfl rfl rfl ?_
        refine jv_if_eqT rfl rfl (by decide) ?_
        refine jv_iconst rfl rfl ?_
        refine jv_ireturn rfl (Or.inr ⟨rfl, by decide⟩) ?_
        exact k0 (by unfold jt_one; simp only [← Int.add_assoc]; omega)
  · refine jv_iconst rfl rfl ?_
    refine jv_goto rfl rfl ?_
    refine jv_istoreK (L2 := [some (.inr (.inr 94)), some (.inl base), some (.inl a), some (.inl b), some (.inl 1), none]) rfl rfl rfl ?_
    refine jv_aload_n rfl rfl rfl (by decide) ?_
    refine jv_getr (w := 95) rfl rfl rfl ⟨by decide, rfl⟩ rfl rfl ?_
    refine jv_iload_n rfl rfl rfl ?_
    refine jv_bipush rfl rfl ?_
    refine jv_iadd rfl rfl ⟨by omega, by omega⟩ ?_
    refine jv_bipush rfl rfl ?_
    refine jv_iload_n rfl rfl rfl ?_
    refine jv_imul rfl rfl ⟨by omega, by omega⟩ ?_
    refine jv_iadd rfl rfl ⟨by omega, by omega⟩ ?_
    refine jv_aload_n rfl rfl rfl (by decide) ?_
    refine jv_getr (w := 95) rfl rfl rfl ⟨by decide, rfl⟩ rfl rfl ?_
    refine jv_iload_n rfl rfl rfl ?_
    refine jv_iconst rfl rfl ?_
    refine jv_iadd rfl rfl ⟨by omega, by omega⟩ ?_
    refine jv_iload_n rfl rfl rfl ?_
    refine jv_iadd rfl rfl ⟨by omega, by omega⟩ ?_
    refine jv_iaload rfl rfl (by decide) rfl ⟨by omega, by omega⟩ ?_
    refine jv_iadd rfl rfl ⟨by omega, by omega⟩ ?_
    refine jv_iaload rfl rfl (by decide) rfl ⟨by omega, by omega⟩ ?_
    refine jv_aload_n rfl rfl rfl (by decide) ?_
    refine jv_getr (w := 95) rfl rfl rfl ⟨by decide, rfl⟩ rfl rfl ?_
    refine jv_iload_n rfl rfl rfl ?_
    refine jv_iconst rfl rfl ?_
    refine jv_iadd rfl rfl ⟨by omega, by omega⟩ ?_
    refine jv_iaload rfl rfl (by decide) rfl ⟨by omega, by omega⟩ ?_
    refine jv_icmp_lt rfl rfl rfl (fun c55_1 => ?_) (fun c55_1 => ?_)
    · refine jv_iconst rfl rfl ?_
      refine jv_istoreK (L2 := [some (.inr (.inr 94)), some (.inl base), some (.inl a), some (.inl b), some (.inl 1), some (.inl 0)]) rfl rfl rfl ?_
      refine jv_iload_n rfl rfl rfl ?_
      refine jv_iload_n rfl rfl rfl ?_
      refine jv_icmp_eq rfl rfl rfl (fun c62_2 => ?_) (fun c62_2 => ?_)
      · refine jv_iconst rfl rfl ?_
        refine jv_ireturn rfl (Or.inr ⟨rfl, by decide⟩) ?_
        exact k0 (by unfold jt_one; simp only [← Int.add_assoc]; omega)
      · refine jv_iload rfl rfl rfl ?_
        refine jv_if_eqF rfl rfl (by decide) ?_
        refine jv_iload rfl rfl rfl ?_
        refine jv_if_eqT rfl rfl (by decide) ?_
        refine jv_iconst rfl rfl ?_
        refine jv_ireturn rfl (Or.inr ⟨rfl, by decide⟩) ?_
        exact k0 (by unfold jt_one; simp only [← Int.add_assoc]; omega)
    · refine jv_iconst rfl rfl ?_
      refine jv_goto rfl rfl ?_
      refine jv_istoreK (L2 := [some (.inr (.inr 94)), some (.inl base), some (.inl a), some (.inl b), some (.inl 1), some (.inl 1)]) rfl rfl rfl ?_
      refine jv_iload_n rfl rfl rfl ?_
      refine jv_iload_n rfl rfl rfl ?_
      refine jv_icmp_eq rfl rfl rfl (fun c62_3 => ?_) (fun c62_3 => ?_)
      · refine jv_iconst rfl rfl ?_
        refine jv_ireturn rfl (Or.inr ⟨rfl, by decide⟩) ?_
        exact k0 (by unfold jt_one; simp only [← Int.add_assoc]; omega)
      · refine jv_iload rfl rfl rfl ?_
        refine jv_if_eqF rfl rfl (by decide) ?_
        refine jv_iload rfl rfl rfl ?_
        refine jv_if_eqF rfl rfl (by decide) ?_
        refine jv_iconst rfl rfl ?_
        refine jv_goto rfl rfl ?_
        refine jv_ireturn rfl (Or.inr ⟨rfl, by decide⟩) ?_
        exact k1 (by unfold jt_one; simp only [← Int.add_assoc]; omega)
set_option maxRecDepth 10000 in
set_option maxHeartbeats 1000000 in
theorem pr_atOne {X : jm_X} {m : Int} {y : Int} (r_m : jm_r m) (r_y : jm_r y) : jp X 103 181 [.inl m, .inl y] := by
  intro μ hI
  obtain ⟨⟨hit, hlan⟩, ⟨ht0, ht1, ht2⟩, ⟨hr0, hr1, hr2⟩, ⟨hst, hfa⟩, htown, hidle, himg, hpast⟩ := id hI
  obtain ⟨hwf, hcf, hkd, hmat, hrel, hh01, hhot, hnc⟩ := id htown
  obtain ⟨⟨r0, r1, r2, r3⟩, rm, rz, rc⟩ := id hrel
  obtain ⟨w0, w1, w2, w3, w4, w6, w7, w8⟩ := id hwf
  have hwf0 : jt_wf (fun k => μ 95 (0 + k)) := by simp only [Int.zero_add]; exact hwf
  have hone : ∀ a b, jt_one (fun k => μ 95 (0 + k)) a b ↔ jt_one (μ 95) a b := by intro a b; simp only [Int.zero_add]
  refine jv_enter (d := 199) jm_p_X9_atOne [some (.inr (.inr 0)), some (.inl m), some (.inl y)] rfl rfl rfl (Nat.le_of_ble_eq_true rfl) rfl rfl ?_
  refine jv_aload_n rfl rfl rfl (by decide) ?_
  refine jv_iload_n rfl rfl rfl ?_
  refine jv_callV1 rfl rfl rfl rfl ⟨by decide, rfl⟩ (Nat.le_of_ble_eq_true rfl) (cl_noMat (fun b2 => ?_) (fun b2 => ?_))
  · show jV _ _ jm_p_X9_atOne _ 3 [some (.inr (.inr 0)), some (.inl m), some (.inl y)] [.inl 1] μ
    refine jv_if_neT rfl rfl (by decide) ?_
    refine jv_ldc rfl rfl ?_
    refine jv_ireturn rfl (Or.inl rfl) ?_
    refine ⟨_, rfl, ?_⟩
    refine jv_enter (d := 199) jm_p_X10_atOne [some (.inr (.inr 94)), some (.inl m), some (.inl y)] rfl rfl rfl (Nat.le_of_ble_eq_true rfl) rfl rfl ?_
    refine jv_aload_n rfl rfl rfl (by decide) ?_
    refine jv_iload_n rfl rfl rfl ?_
    refine jv_callV1 rfl rfl rfl rfl ⟨by decide, rfl⟩ (Nat.le_of_ble_eq_true rfl) (mo_isMat (by omega) (fun b2 => ?_) (fun b2 => ?_))
    · show jV _ _ jm_p_X10_atOne _ 3 [some (.inr (.inr 94)), some (.inl m), some (.inl y)] [.inl 1] μ
      refine jv_if_eqF rfl rfl (by decide) ?_
      refine jv_aload_n rfl rfl rfl (by decide) ?_
      refine jv_iload_n rfl rfl rfl ?_
      refine jv_callV1 rfl rfl rfl rfl ⟨by decide, rfl⟩ (Nat.le_of_ble_eq_true rfl) (mo_isMat (by omega) (fun b6 => ?_) (fun b6 => ?_))
      · show jV _ _ jm_p_X10_atOne _ 7 [some (.inr (.inr 94)), some (.inl m), some (.inl y)] [.inl 1] μ
        refine jv_if_neT rfl rfl (by decide) ?_
        refine jv_aload_n rfl rfl rfl (by decide) ?_
        refine jv_iconst rfl rfl ?_
        refine jv_iload_n rfl rfl rfl ?_
        refine jv_iload_n rfl rfl rfl ?_
        refine jv_callV3 rfl rfl rfl rfl ⟨by decide, rfl⟩ (Nat.le_of_ble_eq_true rfl) (mo_areAtOne (by omega) (by omega) (by omega) hwf0 (fun b14 => ?_) (fun b14 => ?_))
        · show jV _ _ jm_p_X10_atOne _ 15 [some (.inr (.inr 94)), some (.inl m), some (.inl y)] [.inl 1] μ
          refine jv_if_eqF rfl rfl (by decide) ?_
          refine jv_iconst rfl rfl ?_
          refine jv_goto rfl rfl ?_
          refine jv_ireturn rfl (Or.inl rfl) ?_
          first | exact ⟨jv_one (by omega), hI⟩ | (exfalso; have h8 := hone m y; simp_all)
        · show jV _ _ jm_p_X10_atOne _ 15 [some (.inr (.inr 94)), some (.inl m), some (.inl y)] [.inl 0] μ
          refine jv_if_eqT rfl rfl (by decide) ?_
          refine jv_iconst rfl rfl ?_
          refine jv_ireturn rfl (Or.inl rfl) ?_
          first | exact ⟨jv_one (by omega), hI⟩ | (exfalso; have h8 := hone m y; simp_all)
      · show jV _ _ jm_p_X10_atOne _ 7 [some (.inr (.inr 94)), some (.inl m), some (.inl y)] [.inl 0] μ
        refine jv_if_neF rfl rfl (by decide) ?_
        refine jv_ldc rfl rfl ?_
        refine jv_ireturn rfl (Or.inl rfl) ?_
        first | exact ⟨jv_one (by omega), hI⟩ | (exfalso; have h8 := hone m y; simp_all)
    · show jV _ _ jm_p_X10_atOne _ 3 [some (.inr (.inr 94)), some (.inl m), some (.inl y)] [.inl 0] μ
      refine jv_if_eqT rfl rfl (by decide) ?_
      refine jv_ldc rfl rfl ?_
      refine jv_ireturn rfl (Or.inl rfl) ?_
      first | exact ⟨jv_one (by omega), hI⟩ | (exfalso; have h8 := hone m y; simp_all)
  · show jV _ _ jm_p_X9_atOne _ 3 [some (.inr (.inr 0)), some (.inl m), some (.inl y)] [.inl 0] μ
    refine jv_if_neF rfl rfl (by decide) ?_
    refine jv_aload_n rfl rfl rfl (by decide) ?_
    refine jv_iload_n rfl rfl rfl ?_
    refine jv_callV1 rfl rfl rfl rfl ⟨by decide, rfl⟩ (Nat.le_of_ble_eq_true rfl) (cl_noMat (fun b6 => ?_) (fun b6 => ?_))
    · show jV _ _ jm_p_X9_atOne _ 7 [some (.inr (.inr 0)), some (.inl m), some (.inl y)] [.inl 1] μ
      refine jv_if_eqF rfl rfl (by decide) ?_
      refine jv_ldc rfl rfl ?_
      refine jv_ireturn rfl (Or.inl rfl) ?_
      refine ⟨_, rfl, ?_⟩
      refine jv_enter (d := 199) jm_p_X10_atOne [some (.inr (.inr 94)), some (.inl m), some (.inl y)] rfl rfl rfl (Nat.le_of_ble_eq_true rfl) rfl rfl ?_
      refine jv_aload_n rfl rfl rfl (by decide) ?_
      refine jv_iload_n rfl rfl rfl ?_
      refine jv_callV1 rfl rfl rfl rfl ⟨by decide, rfl⟩ (Nat.le_of_ble_eq_true rfl) (mo_isMat (by omega) (fun b2 => ?_) (fun b2 => ?_))
      · show jV _ _ jm_p_X10_atOne _ 3 [some (.inr (.inr 94)), some (.inl m), some (.inl y)] [.inl 1] μ
        refine jv_if_eqF rfl rfl (by decide) ?_
        refine jv_aload_n rfl rfl rfl (by decide) ?_
        refine jv_iload_n rfl rfl rfl ?_
        refine jv_callV1 rfl rfl rfl rfl ⟨by decide, rfl⟩ (Nat.le_of_ble_eq_true rfl) (mo_isMat (by omega) (fun b6 => ?_) (fun b6 => ?_))
        · show jV _ _ jm_p_X10_atOne _ 7 [some (.inr (.inr 94)), some (.inl m), some (.inl y)] [.inl 1] μ
          refine jv_if_neT rfl rfl (by decide) ?_
          refine jv_aload_n rfl rfl rfl (by decide) ?_
          refine jv_iconst rfl rfl ?_
          refine jv_iload_n rfl rfl rfl ?_
          refine jv_iload_n rfl rfl rfl ?_
          refine jv_callV3 rfl rfl rfl rfl ⟨by decide, rfl⟩ (Nat.le_of_ble_eq_true rfl) (mo_areAtOne (by omega) (by omega) (by omega) hwf0 (fun b14 => ?_) (fun b14 => ?_))
          · show jV _ _ jm_p_X10_atOne _ 15 [some (.inr (.inr 94)), some (.inl m), some (.inl y)] [.inl 1] μ
            refine jv_if_eqF rfl rfl (by decide) ?_
            refine jv_iconst rfl rfl ?_
            refine jv_goto rfl rfl ?_
            refine jv_ireturn rfl (Or.inl rfl) ?_
            first | exact ⟨jv_one (by omega), hI⟩ | (exfalso; have h8 := hone m y; simp_all)
          · show jV _ _ jm_p_X10_atOne _ 15 [some (.inr (.inr 94)), some (.inl m), some (.inl y)] [.inl 0] μ
            refine jv_if_eqT rfl rfl (by decide) ?_
            refine jv_iconst rfl rfl ?_
            refine jv_ireturn rfl (Or.inl rfl) ?_
            first | exact ⟨jv_one (by omega), hI⟩ | (exfalso; have h8 := hone m y; simp_all)
        · show jV _ _ jm_p_X10_atOne _ 7 [some (.inr (.inr 94)), some (.inl m), some (.inl y)] [.inl 0] μ
          refine jv_if_neF rfl rfl (by decide) ?_
          refine jv_ldc rfl rfl ?_
          refine jv_ireturn rfl (Or.inl rfl) ?_
          first | exact ⟨jv_one (by omega), hI⟩ | (exfalso; have h8 := hone m y; simp_all)
      · show jV _ _ jm_p_X10_atOne _ 3 [some (.inr (.inr 94)), some (.inl m), some (.inl y)] [.inl 0] μ
        refine jv_if_eqT rfl rfl (by decide) ?_
        refine jv_ldc rfl rfl ?_
        refine jv_ireturn rfl (Or.inl rfl) ?_
        first | exact ⟨jv_one (by omega), hI⟩ | (exfalso; have h8 := hone m y; simp_all)
    · show jV _ _ jm_p_X9_atOne _ 7 [some (.inr (.inr 0)), some (.inl m), some (.inl y)] [.inl 0] μ
      refine jv_if_eqT rfl rfl (by decide) ?_
      refine jv_iload_n rfl rfl rfl ?_
      refine jv_iload_n rfl rfl rfl ?_
      refine jv_icmp_eq rfl rfl rfl (fun c12 => ?_) (fun c12 => ?_)
      · refine jv_iconst rfl rfl ?_
        refine jv_ireturn rfl (Or.inl rfl) ?_
        refine ⟨_, rfl, ?_⟩
        refine jv_enter (d := 199) jm_p_X10_atOne [some (.inr (.inr 94)), some (.inl m), some (.inl y)] rfl rfl rfl (Nat.le_of_ble_eq_true rfl) rfl rfl ?_
        refine jv_aload_n rfl rfl rfl (by decide) ?_
        refine jv_iload_n rfl rfl rfl ?_
        refine jv_callV1 rfl rfl rfl rfl ⟨by decide, rfl⟩ (Nat.le_of_ble_eq_true rfl) (mo_isMat (by omega) (fun b2 => ?_) (fun b2 => ?_))
        · show jV _ _ jm_p_X10_atOne _ 3 [some (.inr (.inr 94)), some (.inl m), some (.inl y)] [.inl 1] μ
          refine jv_if_eqF rfl rfl (by decide) ?_
          refine jv_aload_n rfl rfl rfl (by decide) ?_
          refine jv_iload_n rfl rfl rfl ?_
          refine jv_callV1 rfl rfl rfl rfl ⟨by decide, rfl⟩ (Nat.le_of_ble_eq_true rfl) (mo_isMat (by omega) (fun b6 => ?_) (fun b6 => ?_))
          · show jV _ _ jm_p_X10_atOne _ 7 [some (.inr (.inr 94)), some (.inl m), some (.inl y)] [.inl 1] μ
            refine jv_if_neT rfl rfl (by decide) ?_
            refine jv_aload_n rfl rfl rfl (by decide) ?_
            refine jv_iconst rfl rfl ?_
            refine jv_iload_n rfl rfl rfl ?_
            refine jv_iload_n rfl rfl rfl ?_
            refine jv_callV3 rfl rfl rfl rfl ⟨by decide, rfl⟩ (Nat.le_of_ble_eq_true rfl) (mo_areAtOne (by omega) (by omega) (by omega) hwf0 (fun b14 => ?_) (fun b14 => ?_))
            · show jV _ _ jm_p_X10_atOne _ 15 [some (.inr (.inr 94)), some (.inl m), some (.inl y)] [.inl 1] μ
              refine jv_if_eqF rfl rfl (by decide) ?_
              refine jv_iconst rfl rfl ?_
              refine jv_goto rfl rfl ?_
              refine jv_ireturn rfl (Or.inl rfl) ?_
              first | exact ⟨jv_one (by omega), hI⟩ | (exfalso; have h8 := hone m y; simp_all)
            · show jV _ _ jm_p_X10_atOne _ 15 [some (.inr (.inr 94)), some (.inl m), some (.inl y)] [.inl 0] μ
              refine jv_if_eqT rfl rfl (by decide) ?_
              refine jv_iconst rfl rfl ?_
              refine jv_ireturn rfl (Or.inl rfl) ?_
              first | exact ⟨jv_one (by omega), hI⟩ | (exfalso; have h8 := hone m y; simp_all)
          · show jV _ _ jm_p_X10_atOne _ 7 [some (.inr (.inr 94)), some (.inl m), some (.inl y)] [.inl 0] μ
            refine jv_if_neF rfl rfl (by decide) ?_
            refine jv_ldc rfl rfl ?_
            refine jv_ireturn rfl (Or.inl rfl) ?_
            first | exact ⟨jv_one (by omega), hI⟩ | (exfalso; have h8 := hone m y; simp_all)
        · show jV _ _ jm_p_X10_atOne _ 3 [some (.inr (.inr 94)), some (.inl m), some (.inl y)] [.inl 0] μ
          refine jv_if_eqT rfl rfl (by decide) ?_
          refine jv_ldc rfl rfl ?_
          refine jv_ireturn rfl (Or.inl rfl) ?_
          first | exact ⟨jv_one (by omega), hI⟩ | (exfalso; have h8 := hone m y; simp_all)
      · refine jv_aload_n rfl rfl rfl (by decide) ?_
        refine jv_getr (w := 7) rfl rfl rfl ⟨by decide, rfl⟩ rfl rfl ?_
        refine jv_iload_n rfl rfl rfl ?_
        refine jv_iload_n rfl rfl rfl ?_
        refine jv_callV2 rfl rfl rfl rfl ⟨by decide, rfl⟩ (Nat.le_of_ble_eq_true rfl) (cl_areAtOne hmat hrel hwf (by omega) (by omega) (fun b17 => ?_) (fun b17 => ?_))
        · show jV _ _ jm_p_X9_atOne _ 18 [some (.inr (.inr 0)), some (.inl m), some (.inl y)] [.inl 1] μ
          refine jv_if_eqF rfl rfl (by decide) ?_
          refine jv_iconst rfl rfl ?_
          refine jv_goto rfl rfl ?_
          refine jv_ireturn rfl (Or.inl rfl) ?_
          refine ⟨_, rfl, ?_⟩
          refine jv_enter (d := 199) jm_p_X10_atOne [some (.inr (.inr 94)), some (.inl m), some (.inl y)] rfl rfl rfl (Nat.le_of_ble_eq_true rfl) rfl rfl ?_
          refine jv_aload_n rfl rfl rfl (by decide) ?_
          refine jv_iload_n rfl rfl rfl ?_
          refine jv_callV1 rfl rfl rfl rfl ⟨by decide, rfl⟩ (Nat.le_of_ble_eq_true rfl) (mo_isMat (by omega) (fun b2 => ?_) (fun b2 => ?_))
          · show jV _ _ jm_p_X10_atOne _ 3 [some (.inr (.inr 94)), some (.inl m), some (.inl y)] [.inl 1] μ
            refine jv_if_eqF rfl rfl (by decide) ?_
            refine jv_aload_n rfl rfl rfl (by decide) ?_
            refine jv_iload_n rfl rfl rfl ?_
            refine jv_callV1 rfl rfl rfl rfl ⟨by decide, rfl⟩ (Nat.le_of_ble_eq_true rfl) (mo_isMat (by omega) (fun b6 => ?_) (fun b6 => ?_))
            · show jV _ _ jm_p_X10_atOne _ 7 [some (.inr (.inr 94)), some (.inl m), some (.inl y)] [.inl 1] μ
              refine jv_if_neT rfl rfl (by decide) ?_
              refine jv_aload_n rfl rfl rfl (by decide) ?_
              refine jv_iconst rfl rfl ?_
              refine jv_iload_n rfl rfl rfl ?_
              refine jv_iload_n rfl rfl rfl ?_
              refine jv_callV3 rfl rfl rfl rfl ⟨by decide, rfl⟩ (Nat.le_of_ble_eq_true rfl) (mo_areAtOne (by omega) (by omega) (by omega) hwf0 (fun b14 => ?_) (fun b14 => ?_))
              · show jV _ _ jm_p_X10_atOne _ 15 [some (.inr (.inr 94)), some (.inl m), some (.inl y)] [.inl 1] μ
                refine jv_if_eqF rfl rfl (by decide) ?_
                refine jv_iconst rfl rfl ?_
                refine jv_goto rfl rfl ?_
                refine jv_ireturn rfl (Or.inl rfl) ?_
                first | exact ⟨jv_one (by omega), hI⟩ | (exfalso; have h8 := hone m y; simp_all)
              · show jV _ _ jm_p_X10_atOne _ 15 [some (.inr (.inr 94)), some (.inl m), some (.inl y)] [.inl 0] μ
                refine jv_if_eqT rfl rfl (by decide) ?_
                refine jv_iconst rfl rfl ?_
                refine jv_ireturn rfl (Or.inl rfl) ?_
                first | exact ⟨jv_one (by omega), hI⟩ | (exfalso; have h8 := hone m y; simp_all)
            · show jV _ _ jm_p_X10_atOne _ 7 [some (.inr (.inr 94)), some (.inl m), some (.inl y)] [.inl 0] μ
              refine jv_if_neF rfl rfl (by decide) ?_
              refine jv_ldc rfl rfl ?_
              refine jv_ireturn rfl (Or.inl rfl) ?_
              first | exact ⟨jv_one (by omega), hI⟩ | (exfalso; have h8 := hone m y; simp_all)
          · show jV _ _ jm_p_X10_atOne _ 3 [some (.inr (.inr 94)), some (.inl m), some (.inl y)] [.inl 0] μ
            refine jv_if_eqT rfl rfl (by decide) ?_
            refine jv_ldc rfl rfl ?_
            refine jv_ireturn rfl (Or.inl rfl) ?_
            first | exact ⟨jv_one (by omega), hI⟩ | (exfalso; have h8 := hone m y; simp_all)
        · show jV _ _ jm_p_X9_atOne _ 18 [some (.inr (.inr 0)), some (.inl m), some (.inl y)] [.inl 0] μ
          refine jv_if_eqT rfl rfl (by decide) ?_
          refine jv_iconst rfl rfl ?_
          refine jv_ireturn rfl (Or.inl rfl) ?_
          refine ⟨_, rfl, ?_⟩
          refine jv_enter (d := 199) jm_p_X10_atOne [some (.inr (.inr 94)), some (.inl m), some (.inl y)] rfl rfl rfl (Nat.le_of_ble_eq_true rfl) rfl rfl ?_
          refine jv_aload_n rfl rfl rfl (by decide) ?_
          refine jv_iload_n rfl rfl rfl ?_
          refine jv_callV1 rfl rfl rfl rfl ⟨by decide, rfl⟩ (Nat.le_of_ble_eq_true rfl) (mo_isMat (by omega) (fun b2 => ?_) (fun b2 => ?_))
          · show jV _ _ jm_p_X10_atOne _ 3 [some (.inr (.inr 94)), some (.inl m), some (.inl y)] [.inl 1] μ
            refine jv_if_eqF rfl rfl (by decide) ?_
            refine jv_aload_n rfl rfl rfl (by decide) ?_
            refine jv_iload_n rfl rfl rfl ?_
            refine jv_callV1 rfl rfl rfl rfl ⟨by decide, rfl⟩ (Nat.le_of_ble_eq_true rfl) (mo_isMat (by omega) (fun b6 => ?_) (fun b6 => ?_))
            · show jV _ _ jm_p_X10_atOne _ 7 [some (.inr (.inr 94)), some (.inl m), some (.inl y)] [.inl 1] μ
              refine jv_if_neT rfl rfl (by decide) ?_
              refine jv_aload_n rfl rfl rfl (by decide) ?_
              refine jv_iconst rfl rfl ?_
              refine jv_iload_n rfl rfl rfl ?_
              refine jv_iload_n rfl rfl rfl ?_
              refine jv_callV3 rfl rfl rfl rfl ⟨by decide, rfl⟩ (Nat.le_of_ble_eq_true rfl) (mo_areAtOne (by omega) (by omega) (by omega) hwf0 (fun b14 => ?_) (fun b14 => ?_))
              · show jV _ _ jm_p_X10_atOne _ 15 [some (.inr (.inr 94)), some (.inl m), some (.inl y)] [.inl 1] μ
                refine jv_if_eqF rfl rfl (by decide) ?_
                refine jv_iconst rfl rfl ?_
                refine jv_goto rfl rfl ?_
                refine jv_ireturn rfl (Or.inl rfl) ?_
                first | exact ⟨jv_one (by omega), hI⟩ | (exfalso; have h8 := hone m y; simp_all)
              · show jV _ _ jm_p_X10_atOne _ 15 [some (.inr (.inr 94)), some (.inl m), some (.inl y)] [.inl 0] μ
                refine jv_if_eqT rfl rfl (by decide) ?_
                refine jv_iconst rfl rfl ?_
                refine jv_ireturn rfl (Or.inl rfl) ?_
                first | exact ⟨jv_one (by omega), hI⟩ | (exfalso; have h8 := hone m y; simp_all)
            · show jV _ _ jm_p_X10_atOne _ 7 [some (.inr (.inr 94)), some (.inl m), some (.inl y)] [.inl 0] μ
              refine jv_if_neF rfl rfl (by decide) ?_
              refine jv_ldc rfl rfl ?_
              refine jv_ireturn rfl (Or.inl rfl) ?_
              first | exact ⟨jv_one (by omega), hI⟩ | (exfalso; have h8 := hone m y; simp_all)
          · show jV _ _ jm_p_X10_atOne _ 3 [some (.inr (.inr 94)), some (.inl m), some (.inl y)] [.inl 0] μ
            refine jv_if_eqT rfl rfl (by decide) ?_
            refine jv_ldc rfl rfl ?_
            refine jv_ireturn rfl (Or.inl rfl) ?_
            first | exact ⟨jv_one (by omega), hI⟩ | (exfalso; have h8 := hone m y; simp_all)
