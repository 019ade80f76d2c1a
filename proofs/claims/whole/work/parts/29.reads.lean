set_option maxRecDepth 10000 in
set_option maxHeartbeats 1000000 in
theorem pr_fault {X : jm_X}   : jp X 94 160 [] := by
  intro μ hI
  obtain ⟨⟨hit, hlan⟩, ⟨ht0, ht1, ht2⟩, ⟨hr0, hr1, hr2⟩, ⟨hst, hfa⟩, htown, hidle, himg, hpast⟩ := id hI
  obtain ⟨hwf, hcf, hkd, hmat, hrel, hh01, hhot, hnc⟩ := id htown
  obtain ⟨⟨r0, r1, r2, r3⟩, rm, rz, rc⟩ := id hrel
  obtain ⟨w0, w1, w2, w3, w4, w6, w7, w8⟩ := id hwf
  refine jv_enter (d := 199) jm_p_X9_fault [some (.inr (.inr 0))] rfl rfl rfl (Nat.le_of_ble_eq_true rfl) rfl rfl ?_
  refine jv_aload_n rfl rfl rfl (by decide) ?_
  refine jv_geti rfl rfl rfl ⟨by decide, rfl⟩ (by decide) ?_
  refine jv_ireturn rfl (Or.inl rfl) ?_
  refine ⟨_, rfl, ?_⟩
  refine jv_enter (d := 199) jm_p_X10_fault [some (.inr (.inr 94))] rfl rfl rfl (Nat.le_of_ble_eq_true rfl) rfl rfl ?_
  refine jv_aload_n rfl rfl rfl (by decide) ?_
  refine jv_geti rfl rfl rfl ⟨by decide, rfl⟩ (by decide) ?_
  refine jv_ireturn rfl (Or.inl rfl) ?_
  exact ⟨jv_one hfa.symm, hI⟩
set_option maxRecDepth 10000 in
set_option maxHeartbeats 1000000 in
theorem pr_status {X : jm_X}   : jp X 123 222 [] := by
  intro μ hI
  obtain ⟨⟨hit, hlan⟩, ⟨ht0, ht1, ht2⟩, ⟨hr0, hr1, hr2⟩, ⟨hst, hfa⟩, htown, hidle, himg, hpast⟩ := id hI
  obtain ⟨hwf, hcf, hkd, hmat, hrel, hh01, hhot, hnc⟩ := id htown
  obtain ⟨⟨r0, r1, r2, r3⟩, rm, rz, rc⟩ := id hrel
  obtain ⟨w0, w1, w2, w3, w4, w6, w7, w8⟩ := id hwf
  refine jv_enter (d := 199) jm_p_X9_status [some (.inr (.inr 0))] rfl rfl rfl (Nat.le_of_ble_eq_true rfl) rfl rfl ?_
  refine jv_aload_n rfl rfl rfl (by decide) ?_
  refine jv_geti rfl rfl rfl ⟨by decide, rfl⟩ (by decide) ?_
  refine jv_ireturn rfl (Or.inl rfl) ?_
  refine ⟨_, rfl, ?_⟩
  refine jv_enter (d := 199) jm_p_X10_status [some (.inr (.inr 94))] rfl rfl rfl (Nat.le_of_ble_eq_true rfl) rfl rfl ?_
  refine jv_aload_n rfl rfl rfl (by decide) ?_
  refine jv_geti rfl rfl rfl ⟨by decide, rfl⟩ (by decide) ?_
  refine jv_ireturn rfl (Or.inl rfl) ?_
  exact ⟨jv_one hst.symm, hI⟩
set_option maxRecDepth 10000 in
set_option maxHeartbeats 1000000 in
theorem pr_kind {X : jm_X} {c : Int} (r_c : jm_r c) : jp X 118 206 [.inl c] := by
  intro μ hI
  obtain ⟨⟨hit, hlan⟩, ⟨ht0, ht1, ht2⟩, ⟨hr0, hr1, hr2⟩, ⟨hst, hfa⟩, htown, hidle, himg, hpast⟩ := id hI
  obtain ⟨hwf, hcf, hkd, hmat, hrel, hh01, hhot, hnc⟩ := id htown
  obtain ⟨⟨r0, r1, r2, r3⟩, rm, rz, rc⟩ := id hrel
  obtain ⟨w0, w1, w2, w3, w4, w6, w7, w8⟩ := id hwf
  have hcm : ∀ c, 0 ≤ c → c < 6 → μ 9 c = 18 + c := fun c a b => by have := hmat.2.2 c a b; exact this
  have hrc : ∀ c, 0 ≤ c → c < μ 95 1 → μ (18 + c) 0 = μ 95 (32 + c) ∧ μ (18 + c) 1 = μ 95 (38 + c) ∧ μ (18 + c) 2 = μ 95 (44 + c) ∧ μ (18 + c) 3 = μ 95 (50 + c) ∧ μ (18 + c) 4 = μ 95 (56 + c) := fun c a b => rc c a b
  refine jv_enter (d := 199) jm_p_X9_kind [some (.inr (.inr 0)), some (.inl c)] rfl rfl rfl (Nat.le_of_ble_eq_true rfl) rfl rfl ?_
  refine jv_aload_n rfl rfl rfl (by decide) ?_
  refine jv_iload_n rfl rfl rfl ?_
  refine jv_callV1 rfl rfl rfl rfl ⟨by decide, rfl⟩ (Nat.le_of_ble_eq_true rfl) (cl_noComer (fun b2 => ?_) (fun b2 => ?_))
  · show jV _ _ jm_p_X9_kind _ 3 [some (.inr (.inr 0)), some (.inl c)] [.inl 1] μ
    refine jv_if_eqF rfl rfl (by decide) ?_
    refine jv_ldc rfl rfl ?_
    refine jv_goto rfl rfl ?_
    refine jv_ireturn rfl (Or.inl rfl) ?_
    refine ⟨_, rfl, ?_⟩
    refine jv_enter (d := 199) jm_p_X10_kind [some (.inr (.inr 94)), some (.inl c)] rfl rfl rfl (Nat.le_of_ble_eq_true rfl) rfl rfl ?_
    refine jv_aload_n rfl rfl rfl (by decide) ?_
    refine jv_iload_n rfl rfl rfl ?_
    refine jv_callV1 rfl rfl rfl rfl ⟨by decide, rfl⟩ (Nat.le_of_ble_eq_true rfl) (mo_isComer (by omega) (fun b2 => ?_) (fun b2 => ?_))
    · show jV _ _ jm_p_X10_kind _ 3 [some (.inr (.inr 94)), some (.inl c)] [.inl 1] μ
      refine jv_if_eqF rfl rfl (by decide) ?_
      refine jv_aload_n rfl rfl rfl (by decide) ?_
      refine jv_getr (w := 95) rfl rfl rfl ⟨by decide, rfl⟩ rfl rfl ?_
      refine jv_bipush rfl rfl ?_
      refine jv_iload_n rfl rfl rfl ?_
      refine jv_iadd rfl rfl ⟨by omega, by omega⟩ ?_
      refine jv_iaload rfl rfl (by decide) rfl ⟨by omega, by omega⟩ ?_
      refine jv_goto rfl rfl ?_
      refine jv_ireturn rfl (Or.inl rfl) ?_
      exact ⟨jv_one (by have := hrc c; omega), hI⟩
    · show jV _ _ jm_p_X10_kind _ 3 [some (.inr (.inr 94)), some (.inl c)] [.inl 0] μ
      refine jv_if_eqT rfl rfl (by decide) ?_
      refine jv_ldc rfl rfl ?_
      refine jv_ireturn rfl (Or.inl rfl) ?_
      exact ⟨jv_one (by have := hrc c; omega), hI⟩
  · show jV _ _ jm_p_X9_kind _ 3 [some (.inr (.inr 0)), some (.inl c)] [.inl 0] μ
    refine jv_if_eqT rfl rfl (by decide) ?_
    refine jv_aload_n rfl rfl rfl (by decide) ?_
    refine jv_getr (w := 7) rfl rfl rfl ⟨by decide, rfl⟩ rfl rfl ?_
    refine jv_getr (w := 9) rfl rfl rfl ⟨by decide, rfl⟩ rfl rfl ?_
    refine jv_iload_n rfl rfl rfl ?_
    refine jv_aaloadv (v := 18 + c) rfl rfl rfl ⟨by decide, by decide, by decide⟩ ⟨by omega, by omega⟩ (hcm c (by omega) (by omega)) ?_
    refine jv_geti rfl rfl (jz_com7 (by omega) (by omega)).1 ⟨by omega, rfl⟩ (by decide) ?_
    refine jv_ireturn rfl (Or.inl rfl) ?_
    refine ⟨_, rfl, ?_⟩
    refine jv_enter (d := 199) jm_p_X10_kind [some (.inr (.inr 94)), some (.inl c)] rfl rfl rfl (Nat.le_of_ble_eq_true rfl) rfl rfl ?_
    refine jv_aload_n rfl rfl rfl (by decide) ?_
    refine jv_iload_n rfl rfl rfl ?_
    refine jv_callV1 rfl rfl rfl rfl ⟨by decide, rfl⟩ (Nat.le_of_ble_eq_true rfl) (mo_isComer (by omega) (fun b2 => ?_) (fun b2 => ?_))
    · show jV _ _ jm_p_X10_kind _ 3 [some (.inr (.inr 94)), some (.inl c)] [.inl 1] μ
      refine jv_if_eqF rfl rfl (by decide) ?_
      refine jv_aload_n rfl rfl rfl (by decide) ?_
      refine jv_getr (w := 95) rfl rfl rfl ⟨by decide, rfl⟩ rfl rfl ?_
      refine jv_bipush rfl rfl ?_
      refine jv_iload_n rfl rfl rfl ?_
      refine jv_iadd rfl rfl ⟨by omega, by omega⟩ ?_
      refine jv_iaload rfl rfl (by decide) rfl ⟨by omega, by omega⟩ ?_
      refine jv_goto rfl rfl ?_
      refine jv_ireturn rfl (Or.inl rfl) ?_
      exact ⟨jv_one (by have := hrc c; omega), hI⟩
    · show jV _ _ jm_p_X10_kind _ 3 [some (.inr (.inr 94)), some (.inl c)] [.inl 0] μ
      refine jv_if_eqT rfl rfl (by decide) ?_
      refine jv_ldc rfl rfl ?_
      refine jv_ireturn rfl (Or.inl rfl) ?_
      exact ⟨jv_one (by have := hrc c; omega), hI⟩
set_option maxRecDepth 10000 in
set_option maxHeartbeats 1000000 in
theorem pr_comer {X : jm_X} {c : Int} {w : Int} (r_c : jm_r c) (r_w : jm_r w) : jp X 100 177 [.inl c, .inl w] := by
  intro μ hI
  obtain ⟨⟨hit, hlan⟩, ⟨ht0, ht1, ht2⟩, ⟨hr0, hr1, hr2⟩, ⟨hst, hfa⟩, htown, hidle, himg, hpast⟩ := id hI
  obtain ⟨hwf, hcf, hkd, hmat, hrel, hh01, hhot, hnc⟩ := id htown
  obtain ⟨⟨r0, r1, r2, r3⟩, rm, rz, rc⟩ := id hrel
  obtain ⟨w0, w1, w2, w3, w4, w6, w7, w8⟩ := id hwf
  have hcm : ∀ c, 0 ≤ c → c < 6 → μ 9 c = 18 + c := fun c a b => by have := hmat.2.2 c a b; exact this
  have hrc : ∀ c, 0 ≤ c → c < μ 95 1 → μ (18 + c) 0 = μ 95 (32 + c) ∧ μ (18 + c) 1 = μ 95 (38 + c) ∧ μ (18 + c) 2 = μ 95 (44 + c) ∧ μ (18 + c) 3 = μ 95 (50 + c) ∧ μ (18 + c) 4 = μ 95 (56 + c) := fun c a b => rc c a b
  refine jv_enter (d := 199) jm_p_X9_comer [some (.inr (.inr 0)), some (.inl c), some (.inl w), none] rfl rfl rfl (Nat.le_of_ble_eq_true rfl) rfl rfl ?_
  refine jv_aload_n rfl rfl rfl (by decide) ?_
  refine jv_iload_n rfl rfl rfl ?_
  refine jv_callV1 rfl rfl rfl rfl ⟨by decide, rfl⟩ (Nat.le_of_ble_eq_true rfl) (cl_noComer (fun b2 => ?_) (fun b2 => ?_))
  · show jV _ _ jm_p_X9_comer _ 3 [some (.inr (.inr 0)), some (.inl c), some (.inl w), none] [.inl 1] μ
    refine jv_if_eqF rfl rfl (by decide) ?_
    refine jv_ldc rfl rfl ?_
    refine jv_ireturn rfl (Or.inl rfl) ?_
    refine ⟨_, rfl, ?_⟩
    refine jv_enter (d := 199) jm_p_X10_comer [some (.inr (.inr 94)), some (.inl c), some (.inl w)] rfl rfl rfl (Nat.le_of_ble_eq_true rfl) rfl rfl ?_
    refine jv_aload_n rfl rfl rfl (by decide) ?_
    refine jv_iload_n rfl rfl rfl ?_
    refine jv_callV1 rfl rfl rfl rfl ⟨by decide, rfl⟩ (Nat.le_of_ble_eq_true rfl) (mo_isComer (by omega) (fun b2 => ?_) (fun b2 => ?_))
    · show jV _ _ jm_p_X10_comer _ 3 [some (.inr (.inr 94)), some (.inl c), some (.inl w)] [.inl 1] μ
      refine jv_if_neT rfl rfl (by decide) ?_
      refine jv_iload_n rfl rfl rfl ?_
      refine jv_tsw rfl (And.intro (fun s7 => ?_) (fun ns7_3 => (And.intro (fun s7 => ?_) (fun ns7_2 => (And.intro (fun s7 => ?_) (fun ns7_1 => (And.intro (fun s7 => ?_) (fun ns7 => (jm_sw_1 ?_)))))))))
      · refine jv_aload_n rfl rfl rfl (by decide) ?_
        refine jv_getr (w := 95) rfl rfl rfl ⟨by decide, rfl⟩ rfl rfl ?_
        refine jv_bipush rfl rfl ?_
        refine jv_iload_n rfl rfl rfl ?_
        refine jv_iadd rfl rfl ⟨by omega, by omega⟩ ?_
        refine jv_iaload rfl rfl (by decide) rfl ⟨by omega, by omega⟩ ?_
        refine jv_ireturn rfl (Or.inl rfl) ?_
        exact ⟨jv_one (by have := hrc c; omega), hI⟩
      · refine jv_aload_n rfl rfl rfl (by decide) ?_
        refine jv_getr (w := 95) rfl rfl rfl ⟨by decide, rfl⟩ rfl rfl ?_
        refine jv_bipush rfl rfl ?_
        refine jv_iload_n rfl rfl rfl ?_
        refine jv_iadd rfl rfl ⟨by omega, by omega⟩ ?_
        refine jv_iaload rfl rfl (by decide) rfl ⟨by omega, by omega⟩ ?_
        refine jv_ireturn rfl (Or.inl rfl) ?_
        exact ⟨jv_one (by have := hrc c; omega), hI⟩
      · refine jv_aload_n rfl rfl rfl (by decide) ?_
        refine jv_getr (w := 95) rfl rfl rfl ⟨by decide, rfl⟩ rfl rfl ?_
        refine jv_bipush rfl rfl ?_
        refine jv_iload_n rfl rfl rfl ?_
        refine jv_iadd rfl rfl ⟨by omega, by omega⟩ ?_
        refine jv_iaload rfl rfl (by decide) rfl ⟨by omega, by omega⟩ ?_
        refine jv_ireturn rfl (Or.inl rfl) ?_
        exact ⟨jv_one (by have := hrc c; omega), hI⟩
      · refine jv_aload_n rfl rfl rfl (by decide) ?_
        refine jv_getr (w := 95) rfl rfl rfl ⟨by decide, rfl⟩ rfl rfl ?_
        refine jv_bipush rfl rfl ?_
        refine jv_iload_n rfl rfl rfl ?_
        refine jv_iadd rfl rfl ⟨by omega, by omega⟩ ?_
        refine jv_iaload rfl rfl (by decide) rfl ⟨by omega, by omega⟩ ?_
        refine jv_ireturn rfl (Or.inl rfl) ?_
        exact ⟨jv_one (by have := hrc c; omega), hI⟩
      · show jV _ _ jm_p_X10_comer _ 36 [some (.inr (.inr 94)), some (.inl c), some (.inl w)] [] μ
        refine jv_ldc rfl rfl ?_
        refine jv_ireturn rfl (Or.inl rfl) ?_
        exact ⟨jv_one (by have := hrc c; omega), hI⟩
    · show jV _ _ jm_p_X10_comer _ 3 [some (.inr (.inr 94)), some (.inl c), some (.inl w)] [.inl 0] μ
      refine jv_if_neF rfl rfl (by decide) ?_
      refine jv_ldc rfl rfl ?_
      refine jv_ireturn rfl (Or.inl rfl) ?_
      exact ⟨jv_one (by have := hrc c; omega), hI⟩
  · show jV _ _ jm_p_X9_comer _ 3 [some (.inr (.inr 0)), some (.inl c), some (.inl w), none] [.inl 0] μ
    refine jv_if_eqT rfl rfl (by decide) ?_
    refine jv_aload_n rfl rfl rfl (by decide) ?_
    refine jv_getr (w := 7) rfl rfl rfl ⟨by decide, rfl⟩ rfl rfl ?_
    refine jv_getr (w := 9) rfl rfl rfl ⟨by decide, rfl⟩ rfl rfl ?_
    refine jv_iload_n rfl rfl rfl ?_
    refine jv_aaloadv (v := 18 + c) rfl rfl rfl ⟨by decide, by decide, by decide⟩ ⟨by omega, by omega⟩ (hcm c (by omega) (by omega)) ?_
    refine jv_astore_n (L2 := [some (.inr (.inr 0)), some (.inl c), some (.inl w), some (.inr (.inr (18 + c)))]) rfl rfl (by omega) rfl ?_
    refine jv_iload_n rfl rfl rfl ?_
    refine jv_tsw rfl (And.intro (fun s13 => ?_) (fun ns13_3 => (And.intro (fun s13 => ?_) (fun ns13_2 => (And.intro (fun s13 => ?_) (fun ns13_1 => (And.intro (fun s13 => ?_) (fun ns13 => (jm_sw_1 ?_)))))))))
    · refine jv_aload_n rfl rfl rfl (by omega) ?_
      refine jv_geti rfl rfl (jz_com7 (by omega) (by omega)).1 ⟨by omega, rfl⟩ (by decide) ?_
      refine jv_ireturn rfl (Or.inl rfl) ?_
      refine ⟨_, rfl, ?_⟩
      refine jv_enter (d := 199) jm_p_X10_comer [some (.inr (.inr 94)), some (.inl c), some (.inl w)] rfl rfl rfl (Nat.le_of_ble_eq_true rfl) rfl rfl ?_
      refine jv_aload_n rfl rfl rfl (by decide) ?_
      refine jv_iload_n rfl rfl rfl ?_
      refine jv_callV1 rfl rfl rfl rfl ⟨by decide, rfl⟩ (Nat.le_of_ble_eq_true rfl) (mo_isComer (by omega) (fun b2 => ?_) (fun b2 => ?_))
      · show jV _ _ jm_p_X10_comer _ 3 [some (.inr (.inr 94)), some (.inl c), some (.inl w)] [.inl 1] μ
        refine jv_if_neT rfl rfl (by decide) ?_
        refine jv_iload_n rfl rfl rfl ?_
        refine jv_tsw rfl (And.intro (fun s7 => ?_) (fun ns7_3 => (And.intro (fun s7 => ?_) (fun ns7_2 => (And.intro (fun s7 => ?_) (fun ns7_1 => (And.intro (fun s7 => ?_) (fun ns7 => (jm_sw_1 ?_)))))))))
        · refine jv_aload_n rfl rfl rfl (by decide) ?_
          refine jv_getr (w := 95) rfl rfl rfl ⟨by decide, rfl⟩ rfl rfl ?_
          refine jv_bipush rfl rfl ?_
          refine jv_iload_n rfl rfl rfl ?_
          refine jv_iadd rfl rfl ⟨by omega, by omega⟩ ?_
          refine jv_iaload rfl rfl (by decide) rfl ⟨by omega, by omega⟩ ?_
          refine jv_ireturn rfl (Or.inl rfl) ?_
          exact ⟨jv_one (by have := hrc c; omega), hI⟩
        · refine jv_aload_n rfl rfl rfl (by decide) ?_
          refine jv_getr (w := 95) rfl rfl rfl ⟨by decide, rfl⟩ rfl rfl ?_
          refine jv_bipush rfl rfl ?_
          refine jv_iload_n rfl rfl rfl ?_
          refine jv_iadd rfl rfl ⟨by omega, by omega⟩ ?_
          refine jv_iaload rfl rfl (by decide) rfl ⟨by omega, by omega⟩ ?_
          refine jv_ireturn rfl (Or.inl rfl) ?_
          exact ⟨jv_one (by have := hrc c; omega), hI⟩
        · refine jv_aload_n rfl rfl rfl (by decide) ?_
          refine jv_getr (w := 95) rfl rfl rfl ⟨by decide, rfl⟩ rfl rfl ?_
          refine jv_bipush rfl rfl ?_
          refine jv_iload_n rfl rfl rfl ?_
          refine jv_iadd rfl rfl ⟨by omega, by omega⟩ ?_
          refine jv_iaload rfl rfl (by decide) rfl ⟨by omega, by omega⟩ ?_
          refine jv_ireturn rfl (Or.inl rfl) ?_
          exact ⟨jv_one (by have := hrc c; omega), hI⟩
        · refine jv_aload_n rfl rfl rfl (by decide) ?_
          refine jv_getr (w := 95) rfl rfl rfl ⟨by decide, rfl⟩ rfl rfl ?_
          refine jv_bipush rfl rfl ?_
          refine jv_iload_n rfl rfl rfl ?_
          refine jv_iadd rfl rfl ⟨by omega, by omega⟩ ?_
          refine jv_iaload rfl rfl (by decide) rfl ⟨by omega, by omega⟩ ?_
          refine jv_ireturn rfl (Or.inl rfl) ?_
          exact ⟨jv_one (by have := hrc c; omega), hI⟩
        · show jV _ _ jm_p_X10_comer _ 36 [some (.inr (.inr 94)), some (.inl c), some (.inl w)] [] μ
          refine jv_ldc rfl rfl ?_
          refine jv_ireturn rfl (Or.inl rfl) ?_
          exact ⟨jv_one (by have := hrc c; omega), hI⟩
      · show jV _ _ jm_p_X10_comer _ 3 [some (.inr (.inr 94)), some (.inl c), some (.inl w)] [.inl 0] μ
        refine jv_if_neF rfl rfl (by decide) ?_
        refine jv_ldc rfl rfl ?_
        refine jv_ireturn rfl (Or.inl rfl) ?_
        exact ⟨jv_one (by have := hrc c; omega), hI⟩
    · refine jv_aload_n rfl rfl rfl (by omega) ?_
      refine jv_geti rfl rfl (jz_com7 (by omega) (by omega)).1 ⟨by omega, rfl⟩ (by decide) ?_
      refine jv_ireturn rfl (Or.inl rfl) ?_
      refine ⟨_, rfl, ?_⟩
      refine jv_enter (d := 199) jm_p_X10_comer [some (.inr (.inr 94)), some (.inl c), some (.inl w)] rfl rfl rfl (Nat.le_of_ble_eq_true rfl) rfl rfl ?_
      refine jv_aload_n rfl rfl rfl (by decide) ?_
      refine jv_iload_n rfl rfl rfl ?_
      refine jv_callV1 rfl rfl rfl rfl ⟨by decide, rfl⟩ (Nat.le_of_ble_eq_true rfl) (mo_isComer (by omega) (fun b2 => ?_) (fun b2 => ?_))
      · show jV _ _ jm_p_X10_comer _ 3 [some (.inr (.inr 94)), some (.inl c), some (.inl w)] [.inl 1] μ
        refine jv_if_neT rfl rfl (by decide) ?_
        refine jv_iload_n rfl rfl rfl ?_
        refine jv_tsw rfl (And.intro (fun s7 => ?_) (fun ns7_3 => (And.intro (fun s7 => ?_) (fun ns7_2 => (And.intro (fun s7 => ?_) (fun ns7_1 => (And.intro (fun s7 => ?_) (fun ns7 => (jm_sw_1 ?_)))))))))
        · refine jv_aload_n rfl rfl rfl (by decide) ?_
          refine jv_getr (w := 95) rfl rfl rfl ⟨by decide, rfl⟩ rfl rfl ?_
          refine jv_bipush rfl rfl ?_
          refine jv_iload_n rfl rfl rfl ?_
          refine jv_iadd rfl rfl ⟨by omega, by omega⟩ ?_
          refine jv_iaload rfl rfl (by decide) rfl ⟨by omega, by omega⟩ ?_
          refine jv_ireturn rfl (Or.inl rfl) ?_
          exact ⟨jv_one (by have := hrc c; omega), hI⟩
        · refine jv_aload_n rfl rfl rfl (by decide) ?_
          refine jv_getr (w := 95) rfl rfl rfl ⟨by decide, rfl⟩ rfl rfl ?_
          refine jv_bipush rfl rfl ?_
          refine jv_iload_n rfl rfl rfl ?_
          refine jv_iadd rfl rfl ⟨by omega, by omega⟩ ?_
          refine jv_iaload rfl rfl (by decide) rfl ⟨by omega, by omega⟩ ?_
          refine jv_ireturn rfl (Or.inl rfl) ?_
          exact ⟨jv_one (by have := hrc c; omega), hI⟩
        · refine jv_aload_n rfl rfl rfl (by decide) ?_
          refine jv_getr (w := 95) rfl rfl rfl ⟨by decide, rfl⟩ rfl rfl ?_
          refine jv_bipush rfl rfl ?_
          refine jv_iload_n rfl rfl rfl ?_
          refine jv_iadd rfl rfl ⟨by omega, by omega⟩ ?_
          refine jv_iaload rfl rfl (by decide) rfl ⟨by omega, by omega⟩ ?_
          refine jv_ireturn rfl (Or.inl rfl) ?_
          exact ⟨jv_one (by have := hrc c; omega), hI⟩
        · refine jv_aload_n rfl rfl rfl (by decide) ?_
          refine jv_getr (w := 95) rfl rfl rfl ⟨by decide, rfl⟩ rfl rfl ?_
          refine jv_bipush rfl rfl ?_
          refine jv_iload_n rfl rfl rfl ?_
          refine jv_iadd rfl rfl ⟨by omega, by omega⟩ ?_
          refine jv_iaload rfl rfl (by decide) rfl ⟨by omega, by omega⟩ ?_
          refine jv_ireturn rfl (Or.inl rfl) ?_
          exact ⟨jv_one (by have := hrc c; omega), hI⟩
        · show jV _ _ jm_p_X10_comer _ 36 [some (.inr (.inr 94)), some (.inl c), some (.inl w)] [] μ
          refine jv_ldc rfl rfl ?_
          refine jv_ireturn rfl (Or.inl rfl) ?_
          exact ⟨jv_one (by have := hrc c; omega), hI⟩
      · show jV _ _ jm_p_X10_comer _ 3 [some (.inr (.inr 94)), some (.inl c), some (.inl w)] [.inl 0] μ
        refine jv_if_neF rfl rfl (by decide) ?_
        refine jv_ldc rfl rfl ?_
        refine jv_ireturn rfl (Or.inl rfl) ?_
        exact ⟨jv_one (by have := hrc c; omega), hI⟩
    · refine jv_aload_n rfl rfl rfl (by omega) ?_
      refine jv_geti rfl rfl (jz_com7 (by omega) (by omega)).1 ⟨by omega, rfl⟩ (by decide) ?_
      refine jv_ireturn rfl (Or.inl rfl) ?_
      refine ⟨_, rfl, ?_⟩
      refine jv_enter (d := 199) jm_p_X10_comer [some (.inr (.inr 94)), some (.inl c), some (.inl w)] rfl rfl rfl (Nat.le_of_ble_eq_true rfl) rfl rfl ?_
      refine jv_aload_n rfl rfl rfl (by decide) ?_
      refine jv_iload_n rfl rfl rfl ?_
      refine jv_callV1 rfl rfl rfl rfl ⟨by decide, rfl⟩ (Nat.le_of_ble_eq_true rfl) (mo_isComer (by omega) (fun b2 => ?_) (fun b2 => ?_))
      · show jV _ _ jm_p_X10_comer _ 3 [some (.inr (.inr 94)), some (.inl c), some (.inl w)] [.inl 1] μ
        refine jv_if_neT rfl rfl (by decide) ?_
        refine jv_iload_n rfl rfl rfl ?_
        refine jv_tsw rfl (And.intro (fun s7 => ?_) (fun ns7_3 => (And.intro (fun s7 => ?_) (fun ns7_2 => (And.intro (fun s7 => ?_) (fun ns7_1 => (And.intro (fun s7 => ?_) (fun ns7 => (jm_sw_1 ?_)))))))))
        · refine jv_aload_n rfl rfl rfl (by decide) ?_
          refine jv_getr (w := 95) rfl rfl rfl ⟨by decide, rfl⟩ rfl rfl ?_
          refine jv_bipush rfl rfl ?_
          refine jv_iload_n rfl rfl rfl ?_
          refine jv_iadd rfl rfl ⟨by omega, by omega⟩ ?_
          refine jv_iaload rfl rfl (by decide) rfl ⟨by omega, by omega⟩ ?_
          refine jv_ireturn rfl (Or.inl rfl) ?_
          exact ⟨jv_one (by have := hrc c; omega), hI⟩
        · refine jv_aload_n rfl rfl rfl (by decide) ?_
          refine jv_getr (w := 95) rfl rfl rfl ⟨by decide, rfl⟩ rfl rfl ?_
          refine jv_bipush rfl rfl ?_
          refine jv_iload_n rfl rfl rfl ?_
          refine jv_iadd rfl rfl ⟨by omega, by omega⟩ ?_
          refine jv_iaload rfl rfl (by decide) rfl ⟨by omega, by omega⟩ ?_
          refine jv_ireturn rfl (Or.inl rfl) ?_
          exact ⟨jv_one (by have := hrc c; omega), hI⟩
        · refine jv_aload_n rfl rfl rfl (by decide) ?_
          refine jv_getr (w := 95) rfl rfl rfl ⟨by decide, rfl⟩ rfl rfl ?_
          refine jv_bipush rfl rfl ?_
          refine jv_iload_n rfl rfl rfl ?_
          refine jv_iadd rfl rfl ⟨by omega, by omega⟩ ?_
          refine jv_iaload rfl rfl (by decide) rfl ⟨by omega, by omega⟩ ?_
          refine jv_ireturn rfl (Or.inl rfl) ?_
          exact ⟨jv_one (by have := hrc c; omega), hI⟩
        · refine jv_aload_n rfl rfl rfl (by decide) ?_
          refine jv_getr (w := 95) rfl rfl rfl ⟨by decide, rfl⟩ rfl rfl ?_
          refine jv_bipush rfl rfl ?_
          refine jv_iload_n rfl rfl rfl ?_
          refine jv_iadd rfl rfl ⟨by omega, by omega⟩ ?_
          refine jv_iaload rfl rfl (by decide) rfl ⟨by omega, by omega⟩ ?_
          refine jv_ireturn rfl (Or.inl rfl) ?_
          exact ⟨jv_one (by have := hrc c; omega), hI⟩
        · show jV _ _ jm_p_X10_comer _ 36 [some (.inr (.inr 94)), some (.inl c), some (.inl w)] [] μ
          refine jv_ldc rfl rfl ?_
          refine jv_ireturn rfl (Or.inl rfl) ?_
          exact ⟨jv_one (by have := hrc c; omega), hI⟩
      · show jV _ _ jm_p_X10_comer _ 3 [some (.inr (.inr 94)), some (.inl c), some (.inl w)] [.inl 0] μ
        refine jv_if_neF rfl rfl (by decide) ?_
        refine jv_ldc rfl rfl ?_
        refine jv_ireturn rfl (Or.inl rfl) ?_
        exact ⟨jv_one (by have := hrc c; omega), hI⟩
    · refine jv_aload_n rfl rfl rfl (by omega) ?_
      refine jv_geti rfl rfl (jz_com7 (by omega) (by omega)).1 ⟨by omega, rfl⟩ (by decide) ?_
      refine jv_ireturn rfl (Or.inl rfl) ?_
      refine ⟨_, rfl, ?_⟩
      refine jv_enter (d := 199) jm_p_X10_comer [some (.inr (.inr 94)), some (.inl c), some (.inl w)] rfl rfl rfl (Nat.le_of_ble_eq_true rfl) rfl rfl ?_
      refine jv_aload_n rfl rfl rfl (by decide) ?_
      refine jv_iload_n rfl rfl rfl ?_
      refine jv_callV1 rfl rfl rfl rfl ⟨by decide, rfl⟩ (Nat.le_of_ble_eq_true rfl) (mo_isComer (by omega) (fun b2 => ?_) (fun b2 => ?_))
      · show jV _ _ jm_p_X10_comer _ 3 [some (.inr (.inr 94)), some (.inl c), some (.inl w)] [.inl 1] μ
        refine jv_if_neT rfl rfl (by decide) ?_
        refine jv_iload_n rfl rfl rfl ?_
        refine jv_tsw rfl (And.intro (fun s7 => ?_) (fun ns7_3 => (And.intro (fun s7 => ?_) (fun ns7_2 => (And.intro (fun s7 => ?_) (fun ns7_1 => (And.intro (fun s7 => ?_) (fun ns7 => (jm_sw_1 ?_)))))))))
        · refine jv_aload_n rfl rfl rfl (by decide) ?_
          refine jv_getr (w := 95) rfl rfl rfl ⟨by decide, rfl⟩ rfl rfl ?_
          refine jv_bipush rfl rfl ?_
          refine jv_iload_n rfl rfl rfl ?_
          refine jv_iadd rfl rfl ⟨by omega, by omega⟩ ?_
          refine jv_iaload rfl rfl (by decide) rfl ⟨by omega, by omega⟩ ?_
          refine jv_ireturn rfl (Or.inl rfl) ?_
          exact ⟨jv_one (by have := hrc c; omega), hI⟩
        · refine jv_aload_n rfl rfl rfl (by decide) ?_
          refine jv_getr (w := 95) rfl rfl rfl ⟨by decide, rfl⟩ rfl rfl ?_
          refine jv_bipush rfl rfl ?_
          refine jv_iload_n rfl rfl rfl ?_
          refine jv_iadd rfl rfl ⟨by omega, by omega⟩ ?_
          refine jv_iaload rfl rfl (by decide) rfl ⟨by omega, by omega⟩ ?_
          refine jv_ireturn rfl (Or.inl rfl) ?_
          exact ⟨jv_one (by have := hrc c; omega), hI⟩
        · refine jv_aload_n rfl rfl rfl (by decide) ?_
          refine jv_getr (w := 95) rfl rfl rfl ⟨by decide, rfl⟩ rfl rfl ?_
          refine jv_bipush rfl rfl ?_
          refine jv_iload_n rfl rfl rfl ?_
          refine jv_iadd rfl rfl ⟨by omega, by omega⟩ ?_
          refine jv_iaload rfl rfl (by decide) rfl ⟨by omega, by omega⟩ ?_
          refine jv_ireturn rfl (Or.inl rfl) ?_
          exact ⟨jv_one (by have := hrc c; omega), hI⟩
        · refine jv_aload_n rfl rfl rfl (by decide) ?_
          refine jv_getr (w := 95) rfl rfl rfl ⟨by decide, rfl⟩ rfl rfl ?_
          refine jv_bipush rfl rfl ?_
          refine jv_iload_n rfl rfl rfl ?_
          refine jv_iadd rfl rfl ⟨by omega, by omega⟩ ?_
          refine jv_iaload rfl rfl (by decide) rfl ⟨by omega, by omega⟩ ?_
          refine jv_ireturn rfl (Or.inl rfl) ?_
          exact ⟨jv_one (by have := hrc c; omega), hI⟩
        · show jV _ _ jm_p_X10_comer _ 36 [some (.inr (.inr 94)), some (.inl c), some (.inl w)] [] μ
          refine jv_ldc rfl rfl ?_
          refine jv_ireturn rfl (Or.inl rfl) ?_
          exact ⟨jv_one (by have := hrc c; omega), hI⟩
      · show jV _ _ jm_p_X10_comer _ 3 [some (.inr (.inr 94)), some (.inl c), some (.inl w)] [.inl 0] μ
        refine jv_if_neF rfl rfl (by decide) ?_
        refine jv_ldc rfl rfl ?_
        refine jv_ireturn rfl (Or.inl rfl) ?_
        exact ⟨jv_one (by have := hrc c; omega), hI⟩
    · show jV _ _ jm_p_X9_comer _ 26 [some (.inr (.inr 0)), some (.inl c), some (.inl w), some (.inr (.inr (18 + c)))] [] μ
      refine jv_ldc rfl rfl ?_
      refine jv_ireturn rfl (Or.inl rfl) ?_
      refine ⟨_, rfl, ?_⟩
      refine jv_enter (d := 199) jm_p_X10_comer [some (.inr (.inr 94)), some (.inl c), some (.inl w)] rfl rfl rfl (Nat.le_of_ble_eq_true rfl) rfl rfl ?_
      refine jv_aload_n rfl rfl rfl (by decide) ?_
      refine jv_iload_n rfl rfl rfl ?_
      refine jv_callV1 rfl rfl rfl rfl ⟨by decide, rfl⟩ (Nat.le_of_ble_eq_true rfl) (mo_isComer (by omega) (fun b2 => ?_) (fun b2 => ?_))
      · show jV _ _ jm_p_X10_comer _ 3 [some (.inr (.inr 94)), some (.inl c), some (.inl w)] [.inl 1] μ
        refine jv_if_neT rfl rfl (by decide) ?_
        refine jv_iload_n rfl rfl rfl ?_
        refine jv_tsw rfl (And.intro (fun s7 => ?_) (fun ns7_3 => (And.intro (fun s7 => ?_) (fun ns7_2 => (And.intro (fun s7 => ?_) (fun ns7_1 => (And.intro (fun s7 => ?_) (fun ns7 => (jm_sw_1 ?_)))))))))
        · refine jv_aload_n rfl rfl rfl (by decide) ?_
          refine jv_getr (w := 95) rfl rfl rfl ⟨by decide, rfl⟩ rfl rfl ?_
          refine jv_bipush rfl rfl ?_
          refine jv_iload_n rfl rfl rfl ?_
          refine jv_iadd rfl rfl ⟨by omega, by omega⟩ ?_
          refine jv_iaload rfl rfl (by decide) rfl ⟨by omega, by omega⟩ ?_
          refine jv_ireturn rfl (Or.inl rfl) ?_
          exact ⟨jv_one (by have := hrc c; omega), hI⟩
        · refine jv_aload_n rfl rfl rfl (by decide) ?_
          refine jv_getr (w := 95) rfl rfl rfl ⟨by decide, rfl⟩ rfl rfl ?_
          refine jv_bipush rfl rfl ?_
          refine jv_iload_n rfl rfl rfl ?_
          refine jv_iadd rfl rfl ⟨by omega, by omega⟩ ?_
          refine jv_iaload rfl rfl (by decide) rfl ⟨by omega, by omega⟩ ?_
          refine jv_ireturn rfl (Or.inl rfl) ?_
          exact ⟨jv_one (by have := hrc c; omega), hI⟩
        · refine jv_aload_n rfl rfl rfl (by decide) ?_
          refine jv_getr (w := 95) rfl rfl rfl ⟨by decide, rfl⟩ rfl rfl ?_
          refine jv_bipush rfl rfl ?_
          refine jv_iload_n rfl rfl rfl ?_
          refine jv_iadd rfl rfl ⟨by omega, by omega⟩ ?_
          refine jv_iaload rfl rfl (by decide) rfl ⟨by omega, by omega⟩ ?_
          refine jv_ireturn rfl (Or.inl rfl) ?_
          exact ⟨jv_one (by have := hrc c; omega), hI⟩
        · refine jv_aload_n rfl rfl rfl (by decide) ?_
          refine jv_getr (w := 95) rfl rfl rfl ⟨by decide, rfl⟩ rfl rfl ?_
          refine jv_bipush rfl rfl ?_
          refine jv_iload_n rfl rfl rfl ?_
          refine jv_iadd rfl rfl ⟨by omega, by omega⟩ ?_
          refine jv_iaload rfl rfl (by decide) rfl ⟨by omega, by omega⟩ ?_
          refine jv_ireturn rfl (Or.inl rfl) ?_
          exact ⟨jv_one (by have := hrc c; omega), hI⟩
        · show jV _ _ jm_p_X10_comer _ 36 [some (.inr (.inr 94)), some (.inl c), some (.inl w)] [] μ
          refine jv_ldc rfl rfl ?_
          refine jv_ireturn rfl (Or.inl rfl) ?_
          exact ⟨jv_one (by have := hrc c; omega), hI⟩
      · show jV _ _ jm_p_X10_comer _ 3 [some (.inr (.inr 94)), some (.inl c), some (.inl w)] [.inl 0] μ
        refine jv_if_neF rfl rfl (by decide) ?_
        refine jv_ldc rfl rfl ?_
        refine jv_ireturn rfl (Or.inl rfl) ?_
        exact ⟨jv_one (by have := hrc c; omega), hI⟩
