set_option maxRecDepth 10000 in
set_option maxHeartbeats 1000000 in
theorem pr_carries {X : jm_X} {c : Int} (r_c : jm_r c) : jp X 105 185 [.inl c] := by
  intro μ hI
  obtain ⟨⟨hit, hlan⟩, ⟨ht0, ht1, ht2⟩, ⟨hr0, hr1, hr2⟩, ⟨hst, hfa⟩, htown, hidle, himg, hpast⟩ := id hI
  obtain ⟨hwf, hcf, hkd, hmat, hrel, hh01, hhot, hnc⟩ := id htown
  obtain ⟨⟨r0, r1, r2, r3⟩, rm, rz, rc⟩ := id hrel
  obtain ⟨w0, w1, w2, w3, w4, w6, w7, w8⟩ := id hwf
  have hcf5 : jt_cf (μ 95) 100000 := fun c a b => by have q := hcf c a b; omega
  have hHμ := jH_of hI
  refine jv_enter (d := 199) jm_p_X9_carries [some (.inr (.inr 0)), some (.inl c)] rfl rfl rfl (Nat.le_of_ble_eq_true rfl) rfl rfl ?_
  refine jv_aload_n rfl rfl rfl (by decide) ?_
  refine jv_iload_n rfl rfl rfl ?_
  refine jv_callV1 rfl rfl rfl rfl ⟨by decide, rfl⟩ (Nat.le_of_ble_eq_true rfl) (cl_noComer (fun b2 => ?_) (fun b2 => ?_))
  · show jV _ _ jm_p_X9_carries _ 3 [some (.inr (.inr 0)), some (.inl c)] [.inl 1] μ
    refine jv_if_eqF rfl rfl (by decide) ?_
    refine jv_ldc rfl rfl ?_
    refine jv_ireturn rfl (Or.inl rfl) ?_
    refine ⟨_, rfl, ?_⟩
    have fc : jf μ μ := jf_id μ
    have hUμ : jU μ (μ 95) := jU_jf fc
    have q94μ : μ 94 1 = μ 94 1 := by rw [fc 94 (by omega)]
    refine jv_enter (d := 199) jm_p_X10_carries [some (.inr (.inr 94)), some (.inl c)] rfl rfl rfl (Nat.le_of_ble_eq_true rfl) rfl rfl ?_
    refine jv_aload_n rfl rfl rfl (by decide) ?_
    refine jv_iload_n rfl rfl rfl ?_
    refine jv_callV1 rfl rfl rfl rfl ⟨by decide, rfl⟩ (Nat.le_of_ble_eq_true rfl) (mo_isComer (by omega) (fun b2 => ?_) (fun b2 => ?_))
    · first
      | (exfalso; omega)
      | skip
        show jV _ _ jm_p_X10_carries _ 3 [some (.inr (.inr 94)), some (.inl c)] [.inl 1] μ
        refine jv_if_eqF rfl rfl (by decide) ?_
        refine jv_aload_n rfl rfl rfl (by decide) ?_
        refine jv_iload_n rfl rfl rfl ?_
        refine jv_callV1 rfl rfl rfl rfl ⟨by decide, rfl⟩ (Nat.le_of_ble_eq_true rfl) (mo_carriesIf hUμ (by omega) hwf hcf5 (fun ν6 fν6 tν6 => ?_))
        show jV _ _ jm_p_X10_carries _ 7 [some (.inr (.inr 94)), some (.inl c)] [.inl (jt_y (μ 95) c (μ 95 0).toNat)] ν6
        have hUν6 := jU_jr fν6 hUμ
        have u0ν6 := hUν6 0 (by decide) (by decide)
        have u1ν6 := hUν6 1 (by decide) (by decide)
        refine jv_goto rfl rfl ?_
        refine jv_ireturn rfl (Or.inl rfl) ?_
        exact ⟨jv_one (by omega), jI_pair hI fc fν6⟩
    · first
      | (exfalso; omega)
      | skip
        show jV _ _ jm_p_X10_carries _ 3 [some (.inr (.inr 94)), some (.inl c)] [.inl 0] μ
        refine jv_if_eqT rfl rfl (by decide) ?_
        refine jv_ldc rfl rfl ?_
        refine jv_ireturn rfl (Or.inl rfl) ?_
        exact ⟨jv_one (by omega), jI_pair hI fc (jr_id _)⟩
  · show jV _ _ jm_p_X9_carries _ 3 [some (.inr (.inr 0)), some (.inl c)] [.inl 0] μ
    refine jv_if_eqT rfl rfl (by decide) ?_
    refine jv_aload_n rfl rfl rfl (by decide) ?_
    refine jv_getr (w := 45) rfl rfl rfl ⟨by decide, rfl⟩ rfl rfl ?_
    refine jv_aload_n rfl rfl rfl (by decide) ?_
    refine jv_getr (w := 7) rfl rfl rfl ⟨by decide, rfl⟩ rfl rfl ?_
    refine jv_callV1 rfl rfl rfl rfl ⟨by decide, rfl⟩ (Nat.le_of_ble_eq_true rfl) (cl_beginT45 hHμ (fun μ10 fμ10 jμ10 lμ10 => ?_))
    show jV _ _ jm_p_X9_carries _ 11 [some (.inr (.inr 0)), some (.inl c)] [] μ10
    have hHμ10 := jH_congr (fun z a b => fμ10 z (by omega) (by omega) (by omega)) hHμ
    have n3μ10 := jH_3 hHμ10
    have n2μ10 := jH_2 hHμ10
    refine jv_aload_n rfl rfl rfl (by decide) ?_
    refine jv_getr (w := 45) rfl rfl rfl ⟨by decide, rfl⟩ rfl rfl ?_
    refine jv_aload_n rfl rfl rfl (by decide) ?_
    refine jv_getr (w := 7) rfl rfl rfl ⟨by decide, rfl⟩ rfl rfl ?_
    refine jv_aload_n rfl rfl rfl (by decide) ?_
    refine jv_getr (w := 7) rfl rfl rfl ⟨by decide, rfl⟩ rfl rfl ?_
    refine jv_getr (w := 9) rfl rfl rfl ⟨by decide, rfl⟩ rfl rfl ?_
    refine jv_iload_n rfl rfl rfl ?_
    refine jv_aaloadv (v := 18 + c) rfl rfl rfl ⟨by decide, by decide, by decide⟩ ⟨by omega, by omega⟩ (jH_com hHμ10 (by omega) (by omega)) ?_
    refine jv_callV2 rfl rfl rfl rfl ⟨by decide, rfl⟩ (Nat.le_of_ble_eq_true rfl) (cl_goC45 hHμ10 hHμ10.1 (jS_id _) (jl_id _) (by omega) jμ10 (fun μ20 fμ20 jμ20 lμ20 => ?_))
    show jV _ _ jm_p_X9_carries _ 21 [some (.inr (.inr 0)), some (.inl c)] [.inl (jt_y (μ 95) c ((μ 95) 0).toNat)] μ20
    have hHμ20 := jH_congr (fun z a b => fμ20 z (by omega) (by omega)) hHμ10
    have n3μ20 := jH_3 hHμ20
    have n2μ20 := jH_2 hHμ20
    refine jv_ireturn rfl (Or.inl rfl) ?_
    refine ⟨_, rfl, ?_⟩
    have fc : jf μ μ20 := fun z q => by rw [fμ20 z (by omega) (by omega), fμ10 z (by omega) (by omega) (by omega)]
    have hUμ20 : jU μ20 (μ 95) := jU_jf fc
    have u0μ20 := hUμ20 0 (by decide) (by decide)
    have u1μ20 := hUμ20 1 (by decide) (by decide)
    have q94μ20 : μ20 94 1 = μ 94 1 := by rw [fc 94 (by omega)]
    refine jv_enter (d := 199) jm_p_X10_carries [some (.inr (.inr 94)), some (.inl c)] rfl rfl rfl (Nat.le_of_ble_eq_true rfl) rfl rfl ?_
    refine jv_aload_n rfl rfl rfl (by decide) ?_
    refine jv_iload_n rfl rfl rfl ?_
    refine jv_callV1 rfl rfl rfl rfl ⟨by decide, rfl⟩ (Nat.le_of_ble_eq_true rfl) (mo_isComer (by omega) (fun b2 => ?_) (fun b2 => ?_))
    · first
      | (exfalso; omega)
      | skip
        show jV _ _ jm_p_X10_carries _ 3 [some (.inr (.inr 94)), some (.inl c)] [.inl 1] μ20
        refine jv_if_eqF rfl rfl (by decide) ?_
        refine jv_aload_n rfl rfl rfl (by decide) ?_
        refine jv_iload_n rfl rfl rfl ?_
        refine jv_callV1 rfl rfl rfl rfl ⟨by decide, rfl⟩ (Nat.le_of_ble_eq_true rfl) (mo_carriesIf hUμ20 (by omega) hwf hcf5 (fun ν6 fν6 tν6 => ?_))
        show jV _ _ jm_p_X10_carries _ 7 [some (.inr (.inr 94)), some (.inl c)] [.inl (jt_y (μ 95) c (μ 95 0).toNat)] ν6
        have hUν6 := jU_jr fν6 hUμ20
        have u0ν6 := hUν6 0 (by decide) (by decide)
        have u1ν6 := hUν6 1 (by decide) (by decide)
        refine jv_goto rfl rfl ?_
        refine jv_ireturn rfl (Or.inl rfl) ?_
        exact ⟨jv_one (by omega), jI_pair hI fc fν6⟩
    · first
      | (exfalso; omega)
      | skip
        show jV _ _ jm_p_X10_carries _ 3 [some (.inr (.inr 94)), some (.inl c)] [.inl 0] μ20
        refine jv_if_eqT rfl rfl (by decide) ?_
        refine jv_ldc rfl rfl ?_
        refine jv_ireturn rfl (Or.inl rfl) ?_
        exact ⟨jv_one (by omega), jI_pair hI fc (jr_id _)⟩
set_option maxRecDepth 10000 in
set_option maxHeartbeats 1000000 in
theorem pr_leaves {X : jm_X} {c : Int} {m : Int} (r_c : jm_r c) (r_m : jm_r m) : jp X 104 184 [.inl c, .inl m] := by
  intro μ hI
  obtain ⟨⟨hit, hlan⟩, ⟨ht0, ht1, ht2⟩, ⟨hr0, hr1, hr2⟩, ⟨hst, hfa⟩, htown, hidle, himg, hpast⟩ := id hI
  obtain ⟨hwf, hcf, hkd, hmat, hrel, hh01, hhot, hnc⟩ := id htown
  obtain ⟨⟨r0, r1, r2, r3⟩, rm, rz, rc⟩ := id hrel
  obtain ⟨w0, w1, w2, w3, w4, w6, w7, w8⟩ := id hwf
  have hcf5 : jt_cf (μ 95) 100000 := fun c a b => by have q := hcf c a b; omega
  have hHμ := jH_of hI
  refine jv_enter (d := 199) jm_p_X9_leaves [some (.inr (.inr 0)), some (.inl c), some (.inl m)] rfl rfl rfl (Nat.le_of_ble_eq_true rfl) rfl rfl ?_
  refine jv_aload_n rfl rfl rfl (by decide) ?_
  refine jv_iload_n rfl rfl rfl ?_
  refine jv_callV1 rfl rfl rfl rfl ⟨by decide, rfl⟩ (Nat.le_of_ble_eq_true rfl) (cl_noComer (fun b2 => ?_) (fun b2 => ?_))
  · show jV _ _ jm_p_X9_leaves _ 3 [some (.inr (.inr 0)), some (.inl c), some (.inl m)] [.inl 1] μ
    refine jv_if_neT rfl rfl (by decide) ?_
    refine jv_ldc rfl rfl ?_
    refine jv_ireturn rfl (Or.inl rfl) ?_
    refine ⟨_, rfl, ?_⟩
    have fc : jf μ μ := jf_id μ
    have hUμ : jU μ (μ 95) := jU_jf fc
    have q94μ : μ 94 1 = μ 94 1 := by rw [fc 94 (by omega)]
    refine jv_enter (d := 199) jm_p_X10_leaves [some (.inr (.inr 94)), some (.inl c), some (.inl m)] rfl rfl rfl (Nat.le_of_ble_eq_true rfl) rfl rfl ?_
    refine jv_aload_n rfl rfl rfl (by decide) ?_
    refine jv_iload_n rfl rfl rfl ?_
    refine jv_callV1 rfl rfl rfl rfl ⟨by decide, rfl⟩ (Nat.le_of_ble_eq_true rfl) (mo_isComer (by omega) (fun b2 => ?_) (fun b2 => ?_))
    · first
      | (exfalso; omega)
      | skip
        show jV _ _ jm_p_X10_leaves _ 3 [some (.inr (.inr 94)), some (.inl c), some (.inl m)] [.inl 1] μ
        refine jv_if_eqF rfl rfl (by decide) ?_
        refine jv_aload_n rfl rfl rfl (by decide) ?_
        refine jv_iload_n rfl rfl rfl ?_
        refine jv_callV1 rfl rfl rfl rfl ⟨by decide, rfl⟩ (Nat.le_of_ble_eq_true rfl) (mo_isMat (by omega) (fun b6 => ?_) (fun b6 => ?_))
        · first
          | (exfalso; omega)
          | skip
            show jV _ _ jm_p_X10_leaves _ 7 [some (.inr (.inr 94)), some (.inl c), some (.inl m)] [.inl 1] μ
            refine jv_if_neT rfl rfl (by decide) ?_
            refine jv_aload_n rfl rfl rfl (by decide) ?_
            refine jv_iload_n rfl rfl rfl ?_
            refine jv_callV1 rfl rfl rfl rfl ⟨by decide, rfl⟩ (Nat.le_of_ble_eq_true rfl) (mo_carriesIf hUμ (by omega) hwf hcf5 (fun ν12 fν12 tν12 => ?_))
            show jV _ _ jm_p_X10_leaves _ 13 [some (.inr (.inr 94)), some (.inl c), some (.inl m)] [.inl (jt_y (μ 95) c (μ 95 0).toNat)] ν12
            have hUν12 := jU_jr fν12 hUμ
            have u0ν12 := hUν12 0 (by decide) (by decide)
            have u1ν12 := hUν12 1 (by decide) (by decide)
            refine jv_pop rfl rfl ?_
            refine jv_aload_n rfl rfl rfl (by decide) ?_
            refine jv_sipush rfl rfl ?_
            refine jv_iload_n rfl rfl rfl ?_
            refine jv_callV2 rfl rfl rfl rfl ⟨by decide, rfl⟩ (Nat.le_of_ble_eq_true rfl) (mo_liesT tν12 (by omega) hw2 ?_)
            show jV _ _ jm_p_X10_leaves _ 18 [some (.inr (.inr 94)), some (.inl c), some (.inl m)] [.inl (jt_lies (jt_come (μ 95) c) m)] ν12
            refine jv_aload_n rfl rfl rfl (by decide) ?_
            refine jv_iconst rfl rfl ?_
            refine jv_iload_n rfl rfl rfl ?_
            refine jv_callV2 rfl rfl rfl rfl ⟨by decide, rfl⟩ (Nat.le_of_ble_eq_true rfl) (mo_lies0 hUν12 (by omega) hwf ?_)
            show jV _ _ jm_p_X10_leaves _ 22 [some (.inr (.inr 94)), some (.inl c), some (.inl m)] [.inl (jt_lies (μ 95) m), .inl (jt_lies (jt_come (μ 95) c) m)] ν12
            refine jv_isub rfl rfl ⟨by omega, by omega⟩ ?_
            refine jv_ireturn rfl (Or.inl rfl) ?_
            exact ⟨jv_one (by omega), jI_pair hI fc fν12⟩
        · first
          | (exfalso; omega)
          | skip
            show jV _ _ jm_p_X10_leaves _ 7 [some (.inr (.inr 94)), some (.inl c), some (.inl m)] [.inl 0] μ
            refine jv_if_neF rfl rfl (by decide) ?_
            refine jv_ldc rfl rfl ?_
            refine jv_ireturn rfl (Or.inl rfl) ?_
            exact ⟨jv_one (by omega), jI_pair hI fc (jr_id _)⟩
    · first
      | (exfalso; omega)
      | skip
        show jV _ _ jm_p_X10_leaves _ 3 [some (.inr (.inr 94)), some (.inl c), some (.inl m)] [.inl 0] μ
        refine jv_if_eqT rfl rfl (by decide) ?_
        refine jv_ldc rfl rfl ?_
        refine jv_ireturn rfl (Or.inl rfl) ?_
        exact ⟨jv_one (by omega), jI_pair hI fc (jr_id _)⟩
  · show jV _ _ jm_p_X9_leaves _ 3 [some (.inr (.inr 0)), some (.inl c), some (.inl m)] [.inl 0] μ
    refine jv_if_neF rfl rfl (by decide) ?_
    refine jv_aload_n rfl rfl rfl (by decide) ?_
    refine jv_iload_n rfl rfl rfl ?_
    refine jv_callV1 rfl rfl rfl rfl ⟨by decide, rfl⟩ (Nat.le_of_ble_eq_true rfl) (cl_noMat (fun b6 => ?_) (fun b6 => ?_))
    · show jV _ _ jm_p_X9_leaves _ 7 [some (.inr (.inr 0)), some (.inl c), some (.inl m)] [.inl 1] μ
      refine jv_if_eqF rfl rfl (by decide) ?_
      refine jv_ldc rfl rfl ?_
      refine jv_ireturn rfl (Or.inl rfl) ?_
      refine ⟨_, rfl, ?_⟩
      have fc : jf μ μ := jf_id μ
      have hUμ : jU μ (μ 95) := jU_jf fc
      have q94μ : μ 94 1 = μ 94 1 := by rw [fc 94 (by omega)]
      refine jv_enter (d := 199) jm_p_X10_leaves [some (.inr (.inr 94)), some (.inl c), some (.inl m)] rfl rfl rfl (Nat.le_of_ble_eq_true rfl) rfl rfl ?_
      refine jv_aload_n rfl rfl rfl (by decide) ?_
      refine jv_iload_n rfl rfl rfl ?_
      refine jv_callV1 rfl rfl rfl rfl ⟨by decide, rfl⟩ (Nat.le_of_ble_eq_true rfl) (mo_isComer (by omega) (fun b2 => ?_) (fun b2 => ?_))
      · first
        | (exfalso; omega)
        | skip
          show jV _ _ jm_p_X10_leaves _ 3 [some (.inr (.inr 94)), some (.inl c), some (.inl m)] [.inl 1] μ
          refine jv_if_eqF rfl rfl (by decide) ?_
          refine jv_aload_n rfl rfl rfl (by decide) ?_
          refine jv_iload_n rfl rfl rfl ?_
          refine jv_callV1 rfl rfl rfl rfl ⟨by decide, rfl⟩ (Nat.le_of_ble_eq_true rfl) (mo_isMat (by omega) (fun b6 => ?_) (fun b6 => ?_))
          · first
            | (exfalso; omega)
            | skip
              show jV _ _ jm_p_X10_leaves _ 7 [some (.inr (.inr 94)), some (.inl c), some (.inl m)] [.inl 1] μ
              refine jv_if_neT rfl rfl (by decide) ?_
              refine jv_aload_n rfl rfl rfl (by decide) ?_
              refine jv_iload_n rfl rfl rfl ?_
              refine jv_callV1 rfl rfl rfl rfl ⟨by decide, rfl⟩ (Nat.le_of_ble_eq_true rfl) (mo_carriesIf hUμ (by omega) hwf hcf5 (fun ν12 fν12 tν12 => ?_))
              show jV _ _ jm_p_X10_leaves _ 13 [some (.inr (.inr 94)), some (.inl c), some (.inl m)] [.inl (jt_y (μ 95) c (μ 95 0).toNat)] ν12
              have hUν12 := jU_jr fν12 hUμ
              have u0ν12 := hUν12 0 (by decide) (by decide)
              have u1ν12 := hUν12 1 (by decide) (by decide)
              refine jv_pop rfl rfl ?_
              refine jv_aload_n rfl rfl rfl (by decide) ?_
              refine jv_sipush rfl rfl ?_
              refine jv_iload_n rfl rfl rfl ?_
              refine jv_callV2 rfl rfl rfl rfl ⟨by decide, rfl⟩ (Nat.le_of_ble_eq_true rfl) (mo_liesT tν12 (by omega) hw2 ?_)
              show jV _ _ jm_p_X10_leaves _ 18 [some (.inr (.inr 94)), some (.inl c), some (.inl m)] [.inl (jt_lies (jt_come (μ 95) c) m)] ν12
              refine jv_aload_n rfl rfl rfl (by decide) ?_
              refine jv_iconst rfl rfl ?_
              refine jv_iload_n rfl rfl rfl ?_
              refine jv_callV2 rfl rfl rfl rfl ⟨by decide, rfl⟩ (Nat.le_of_ble_eq_true rfl) (mo_lies0 hUν12 (by omega) hwf ?_)
              show jV _ _ jm_p_X10_leaves _ 22 [some (.inr (.inr 94)), some (.inl c), some (.inl m)] [.inl (jt_lies (μ 95) m), .inl (jt_lies (jt_come (μ 95) c) m)] ν12
              refine jv_isub rfl rfl ⟨by omega, by omega⟩ ?_
              refine jv_ireturn rfl (Or.inl rfl) ?_
              exact ⟨jv_one (by omega), jI_pair hI fc fν12⟩
          · first
            | (exfalso; omega)
            | skip
              show jV _ _ jm_p_X10_leaves _ 7 [some (.inr (.inr 94)), some (.inl c), some (.inl m)] [.inl 0] μ
              refine jv_if_neF rfl rfl (by decide) ?_
              refine jv_ldc rfl rfl ?_
              refine jv_ireturn rfl (Or.inl rfl) ?_
              exact ⟨jv_one (by omega), jI_pair hI fc (jr_id _)⟩
      · first
        | (exfalso; omega)
        | skip
          show jV _ _ jm_p_X10_leaves _ 3 [some (.inr (.inr 94)), some (.inl c), some (.inl m)] [.inl 0] μ
          refine jv_if_eqT rfl rfl (by decide) ?_
          refine jv_ldc rfl rfl ?_
          refine jv_ireturn rfl (Or.inl rfl) ?_
          exact ⟨jv_one (by omega), jI_pair hI fc (jr_id _)⟩
    · show jV _ _ jm_p_X9_leaves _ 7 [some (.inr (.inr 0)), some (.inl c), some (.inl m)] [.inl 0] μ
      refine jv_if_eqT rfl rfl (by decide) ?_
      refine jv_aload_n rfl rfl rfl (by decide) ?_
      refine jv_getr (w := 45) rfl rfl rfl ⟨by decide, rfl⟩ rfl rfl ?_
      refine jv_aload_n rfl rfl rfl (by decide) ?_
      refine jv_getr (w := 7) rfl rfl rfl ⟨by decide, rfl⟩ rfl rfl ?_
      refine jv_callV1 rfl rfl rfl rfl ⟨by decide, rfl⟩ (Nat.le_of_ble_eq_true rfl) (cl_beginT45 hHμ (fun μ14 fμ14 jμ14 lμ14 => ?_))
      show jV _ _ jm_p_X9_leaves _ 15 [some (.inr (.inr 0)), some (.inl c), some (.inl m)] [] μ14
      have hHμ14 := jH_congr (fun z a b => fμ14 z (by omega) (by omega) (by omega)) hHμ
      have n3μ14 := jH_3 hHμ14
      have n2μ14 := jH_2 hHμ14
      refine jv_aload_n rfl rfl rfl (by decide) ?_
      refine jv_getr (w := 45) rfl rfl rfl ⟨by decide, rfl⟩ rfl rfl ?_
      refine jv_aload_n rfl rfl rfl (by decide) ?_
      refine jv_getr (w := 7) rfl rfl rfl ⟨by decide, rfl⟩ rfl rfl ?_
      refine jv_aload_n rfl rfl rfl (by decide) ?_
      refine jv_getr (w := 7) rfl rfl rfl ⟨by decide, rfl⟩ rfl rfl ?_
      refine jv_getr (w := 9) rfl rfl rfl ⟨by decide, rfl⟩ rfl rfl ?_
      refine jv_iload_n rfl rfl rfl ?_
      refine jv_aaloadv (v := 18 + c) rfl rfl rfl ⟨by decide, by decide, by decide⟩ ⟨by omega, by omega⟩ (jH_com hHμ14 (by omega) (by omega)) ?_
      refine jv_callV2 rfl rfl rfl rfl ⟨by decide, rfl⟩ (Nat.le_of_ble_eq_true rfl) (cl_goC45 hHμ14 hHμ14.1 (jS_id _) (jl_id _) (by omega) jμ14 (fun μ24 fμ24 jμ24 lμ24 => ?_))
      show jV _ _ jm_p_X9_leaves _ 25 [some (.inr (.inr 0)), some (.inl c), some (.inl m)] [.inl (jt_y (μ 95) c ((μ 95) 0).toNat)] μ24
      have hHμ24 := jH_congr (fun z a b => fμ24 z (by omega) (by omega)) hHμ14
      have n3μ24 := jH_3 hHμ24
      have n2μ24 := jH_2 hHμ24
      refine jv_pop rfl rfl ?_
      refine jv_aload_n rfl rfl rfl (by decide) ?_
      refine jv_getr (w := 45) rfl rfl rfl ⟨by decide, rfl⟩ rfl rfl ?_
      refine jv_getr (w := 48) rfl rfl rfl ⟨by decide, rfl⟩ rfl rfl ?_
      refine jv_iload_n rfl rfl rfl ?_
      refine jv_iaload rfl rfl (by decide) rfl ⟨by omega, by omega⟩ ?_
      refine jv_ireturn rfl (Or.inl rfl) ?_
      refine ⟨_, rfl, ?_⟩
      have fc : jf μ μ24 := fun z q => by rw [fμ24 z (by omega) (by omega), fμ14 z (by omega) (by omega) (by omega)]
      have hUμ24 : jU μ24 (μ 95) := jU_jf fc
      have u0μ24 := hUμ24 0 (by decide) (by decide)
      have u1μ24 := hUμ24 1 (by decide) (by decide)
      have q94μ24 : μ24 94 1 = μ 94 1 := by rw [fc 94 (by omega)]
      have hv : μ24 48 m = jt_by (μ 95) c m (jt_y (μ 95) c m.toNat) := lμ24 m (by omega) (by omega)
      have b1 := jt_lies_r hwf (m := m) (by omega) (by omega)
      have hw2 := jt_come_wf hwf (c := c) (by omega) (by omega)
      have b2 := jt_lies_r hw2 (m := m) (by omega) (by omega)
      have b3 := hw2.2.2.1
      have b4 := jt_come_lies hwf (c := c) (m := m) (by omega) (by omega) (by omega) (by omega)
      rw [if_pos (by omega)] at b4
      refine jv_enter (d := 199) jm_p_X10_leaves [some (.inr (.inr 94)), some (.inl c), some (.inl m)] rfl rfl rfl (Nat.le_of_ble_eq_true rfl) rfl rfl ?_
      refine jv_aload_n rfl rfl rfl (by decide) ?_
      refine jv_iload_n rfl rfl rfl ?_
      refine jv_callV1 rfl rfl rfl rfl ⟨by decide, rfl⟩ (Nat.le_of_ble_eq_true rfl) (mo_isComer (by omega) (fun b2 => ?_) (fun b2 => ?_))
      · first
        | (exfalso; omega)
        | skip
          show jV _ _ jm_p_X10_leaves _ 3 [some (.inr (.inr 94)), some (.inl c), some (.inl m)] [.inl 1] μ24
          refine jv_if_eqF rfl rfl (by decide) ?_
          refine jv_aload_n rfl rfl rfl (by decide) ?_
          refine jv_iload_n rfl rfl rfl ?_
          refine jv_callV1 rfl rfl rfl rfl ⟨by decide, rfl⟩ (Nat.le_of_ble_eq_true rfl) (mo_isMat (by omega) (fun b6 => ?_) (fun b6 => ?_))
          · first
            | (exfalso; omega)
            | skip
              show jV _ _ jm_p_X10_leaves _ 7 [some (.inr (.inr 94)), some (.inl c), some (.inl m)] [.inl 1] μ24
              refine jv_if_neT rfl rfl (by decide) ?_
              refine jv_aload_n rfl rfl rfl (by decide) ?_
              refine jv_iload_n rfl rfl rfl ?_
              refine jv_callV1 rfl rfl rfl rfl ⟨by decide, rfl⟩ (Nat.le_of_ble_eq_true rfl) (mo_carriesIf hUμ24 (by omega) hwf hcf5 (fun ν12 fν12 tν12 => ?_))
              show jV _ _ jm_p_X10_leaves _ 13 [some (.inr (.inr 94)), some (.inl c), some (.inl m)] [.inl (jt_y (μ 95) c (μ 95 0).toNat)] ν12
              have hUν12 := jU_jr fν12 hUμ24
              have u0ν12 := hUν12 0 (by decide) (by decide)
              have u1ν12 := hUν12 1 (by decide) (by decide)
              refine jv_pop rfl rfl ?_
              refine jv_aload_n rfl rfl rfl (by decide) ?_
              refine jv_sipush rfl rfl ?_
              refine jv_iload_n rfl rfl rfl ?_
              refine jv_callV2 rfl rfl rfl rfl ⟨by decide, rfl⟩ (Nat.le_of_ble_eq_true rfl) (mo_liesT tν12 (by omega) hw2 ?_)
              show jV _ _ jm_p_X10_leaves _ 18 [some (.inr (.inr 94)), some (.inl c), some (.inl m)] [.inl (jt_lies (jt_come (μ 95) c) m)] ν12
              refine jv_aload_n rfl rfl rfl (by decide) ?_
              refine jv_iconst rfl rfl ?_
              refine jv_iload_n rfl rfl rfl ?_
              refine jv_callV2 rfl rfl rfl rfl ⟨by decide, rfl⟩ (Nat.le_of_ble_eq_true rfl) (mo_lies0 hUν12 (by omega) hwf ?_)
              show jV _ _ jm_p_X10_leaves _ 22 [some (.inr (.inr 94)), some (.inl c), some (.inl m)] [.inl (jt_lies (μ 95) m), .inl (jt_lies (jt_come (μ 95) c) m)] ν12
              refine jv_isub rfl rfl ⟨by omega, by omega⟩ ?_
              refine jv_ireturn rfl (Or.inl rfl) ?_
              exact ⟨jv_one (by omega), jI_pair hI fc fν12⟩
          · first
            | (exfalso; omega)
            | skip
              show jV _ _ jm_p_X10_leaves _ 7 [some (.inr (.inr 94)), some (.inl c), some (.inl m)] [.inl 0] μ24
              refine jv_if_neF rfl rfl (by decide) ?_
              refine jv_ldc rfl rfl ?_
              refine jv_ireturn rfl (Or.inl rfl) ?_
              exact ⟨jv_one (by omega), jI_pair hI fc (jr_id _)⟩
      · first
        | (exfalso; omega)
        | skip
          show jV _ _ jm_p_X10_leaves _ 3 [some (.inr (.inr 94)), some (.inl c), some (.inl m)] [.inl 0] μ24
          refine jv_if_eqT rfl rfl (by decide) ?_
          refine jv_ldc rfl rfl ?_
          refine jv_ireturn rfl (Or.inl rfl) ?_
          exact ⟨jv_one (by omega), jI_pair hI fc (jr_id _)⟩
set_option maxRecDepth 10000 in
theorem cl_cleanOnes_l {X : jm_X} {d : Nat} {Q : jv_P} {t : Int → Int} {μ0 : jm_M} (hH0 : jH μ0 t) (k : ∀ s μ2, jb_is (fun c => jt_y t c (t 0).toNat = 0) 0 (t 1 - 0).toNat s → jf μ0 μ2 → Q [.inl s] μ2) : ∀ (n : Nat) (s w : Int) (μ : jm_M), 0 ≤ w → w ≤ t 1 → t 1 - w < n → jb_is (fun c => jt_y t c (t 0).toNat = 0) 0 (w - 0).toNat s → jf μ0 μ → jV X (d + 2) jm_p_X2_cleanOnes Q 4 [some (.inr (.inr 49)), some (.inr (.inr 7)), some (.inl s), some (.inl w)] [] μ := by
  intro n
  induction n with
  | zero => intro s w μ y0 y1 yn hs hf; exfalso; omega
  | succ n ih =>
    intro s w μ y0 y1 yn hs hf
    have hHμ := jH_jf hf hH0
    have n3μ := jH_3 hHμ
    have n2μ := jH_2 hHμ
    obtain ⟨w0, w1, w2, w3, w4, w6, w7, w8⟩ := id hHμ.1
    refine jv_iload_n rfl rfl rfl ?_
    refine jv_aload_n rfl rfl rfl (by decide) ?_
    refine jv_geti rfl rfl rfl ⟨by decide, rfl⟩ (by decide) ?_
    refine jv_icmp_ge rfl rfl rfl (fun c7 => ?_) (fun c7 => ?_)
    · refine jv_iload_n rfl rfl rfl ?_
      refine jv_ireturn rfl (Or.inl rfl) ?_
      have hw : w = t 1 := by omega
      rw [hw] at hs
      exact k _ _ hs hf
    · refine jv_aload_n rfl rfl rfl (by decide) ?_
      refine jv_getr (w := 50) rfl rfl rfl ⟨by decide, rfl⟩ rfl rfl ?_
      refine jv_aload_n rfl rfl rfl (by decide) ?_
      refine jv_callV1 rfl rfl rfl rfl ⟨by decide, rfl⟩ (Nat.le_of_ble_eq_true rfl) (cl_beginT50 hHμ (fun μ11 fμ11 jμ11 lμ11 => ?_))
      show jV _ _ jm_p_X2_cleanOnes _ 12 [some (.inr (.inr 49)), some (.inr (.inr 7)), some (.inl s), some (.inl w)] [] μ11
      have hHμ11 := jH_congr (fun z a b => fμ11 z (by omega) (by omega) (by omega)) hHμ
      have n3μ11 := jH_3 hHμ11
      have n2μ11 := jH_2 hHμ11
      refine jv_aload_n rfl rfl rfl (by decide) ?_
      refine jv_getr (w := 50) rfl rfl rfl ⟨by decide, rfl⟩ rfl rfl ?_
      refine jv_aload_n rfl rfl rfl (by decide) ?_
      refine jv_aload_n rfl rfl rfl (by decide) ?_
      refine jv_getr (w := 9) rfl rfl rfl ⟨by decide, rfl⟩ rfl rfl ?_
      refine jv_iload_n rfl rfl rfl ?_
      refine jv_aaloadv (v := 18 + w) rfl rfl rfl ⟨by decide, by decide, by decide⟩ ⟨by omega, by omega⟩ (jH_com hHμ11 (by omega) (by omega)) ?_
      refine jv_callV2 rfl rfl rfl rfl ⟨by decide, rfl⟩ (Nat.le_of_ble_eq_true rfl) (cl_goC50 hHμ11 hHμ11.1 (jS_id _) (jl_id _) (by omega) jμ11 (fun μ19 fμ19 jμ19 lμ19 => ?_))
      show jV _ _ jm_p_X2_cleanOnes _ 20 [some (.inr (.inr 49)), some (.inr (.inr 7)), some (.inl s), some (.inl w)] [.inl (jt_y t w (t 0).toNat)] μ19
      have hHμ19 := jH_congr (fun z a b => fμ19 z (by omega) (by omega)) hHμ11
      have n3μ19 := jH_3 hHμ19
      have n2μ19 := jH_2 hHμ19
      refine jv_if_ne rfl rfl rfl (fun c20 => ?_) (fun c20 => ?_)
      · refine jv_iinc (fun x => [some (.inr (.inr 49)), some (.inr (.inr 7)), some (.inl s), some (.inl x)]) rfl rfl rfl ⟨by omega, by omega⟩ (fun _ => rfl) (fun x3_27 ex3_27 => ?_)
        refine jv_goto rfl rfl ?_
        refine ih s x3_27 μ19 (by omega) (by omega) (by omega) ?_ ?_
        · rw [ex3_27, show (w + 1 - 0).toNat = (w - 0).toNat + 1 by omega]
          refine ⟨s, hs, ?_⟩
          rw [show 0 + (((w - 0).toNat : Nat) : Int) = w by omega]
          first
          | exact Or.inl ⟨by omega, rfl⟩
          | exact Or.inr ⟨by omega, rfl⟩
        · exact fun z q => by rw [fμ19 z (by omega) (by omega), fμ11 z (by omega) (by omega) (by omega), hf z q]
      · refine jv_iload_n rfl rfl rfl ?_
        refine jv_iconst rfl rfl ?_
        refine jv_iload_n rfl rfl rfl ?_
        refine jv_ishl rfl rfl ?_
        refine jv_ior rfl rfl ?_
        refine jv_istore_n (fun x => [some (.inr (.inr 49)), some (.inr (.inr 7)), some (.inl x), some (.inl w)]) rfl rfl (fun _ => rfl) (fun x2_26 ex2_26 => ?_)
        refine jv_iinc (fun x => [some (.inr (.inr 49)), some (.inr (.inr 7)), some (.inl x2_26), some (.inl x)]) rfl rfl rfl ⟨by omega, by omega⟩ (fun _ => rfl) (fun x3_27_1 ex3_27_1 => ?_)
        refine jv_goto rfl rfl ?_
        refine ih x2_26 x3_27_1 μ19 (by omega) (by omega) (by omega) ?_ ?_
        · rw [ex3_27_1, show (w + 1 - 0).toNat = (w - 0).toNat + 1 by omega]
          refine ⟨s, hs, ?_⟩
          rw [show 0 + (((w - 0).toNat : Nat) : Int) = w by omega]
          first
          | exact Or.inl ⟨by omega, ex2_26⟩
          | exact Or.inr ⟨by omega, by rw [ex2_26]; exact jm_or_0 (jb_is_r _ _ hs)⟩
        · exact fun z q => by rw [fμ19 z (by omega) (by omega), fμ11 z (by omega) (by omega) (by omega), hf z q]
set_option maxRecDepth 10000 in
theorem cl_cleanOnes {X : jm_X} {d : Nat} {Q : jv_P} {μ : jm_M} {t : Int → Int} (hH0 : jH μ t) (k : ∀ s μ2, jb_is (fun c => jt_y t c (t 0).toNat = 0) 0 (t 1 - 0).toNat s → jf μ μ2 → Q [.inl s] μ2) : cV X (d + 3) 11 [.inr (.inr 49), .inr (.inr 7)] μ Q := by
  refine jv_enter (d := d + 2) jm_p_X2_cleanOnes [some (.inr (.inr 49)), some (.inr (.inr 7)), none, none] rfl rfl rfl (Nat.le_of_ble_eq_true rfl) rfl rfl ?_
  refine jv_iconst rfl rfl ?_
  refine jv_istore_nK (L2 := [some (.inr (.inr 49)), some (.inr (.inr 7)), some (.inl 0), none]) rfl rfl rfl ?_
  refine jv_iconst rfl rfl ?_
  refine jv_istore_nK (L2 := [some (.inr (.inr 49)), some (.inr (.inr 7)), some (.inl 0), some (.inl 0)]) rfl rfl rfl ?_
  exact cl_cleanOnes_l hH0 k 9 0 0 μ (by omega) hH0.1.2.1.1 (by have := hH0.1.2.1.2; omega) rfl (jf_id μ)
set_option maxRecDepth 10000 in
theorem mo_clean_l {X : jm_X} {d : Nat} {Q : jv_P} {t : Int → Int} {μ0 : jm_M} (hU0 : jU μ0 t) (hw : jt_wf t) (hcf : jt_cf t 100000) (k : ∀ s μ2, jb_is (fun c => jt_y t c (t 0).toNat = 0) 0 (t 1 - 0).toNat s → jr μ0 μ2 → Q [.inl s] μ2) : ∀ (n : Nat) (s w : Int) (μ : jm_M), 0 ≤ w → w ≤ t 1 → t 1 - w < n → jb_is (fun c => jt_y t c (t 0).toNat = 0) 0 (w - 0).toNat s → jr μ0 μ → jV X (d + 4) jm_p_X10_clean Q 9 [some (.inr (.inr 94)), some (.inl s), some (.inl w)] [] μ := by
  intro n
  induction n with
  | zero => intro s w μ y0 y1 yn hs hf; exfalso; omega
  | succ n ih =>
    intro s w μ y0 y1 yn hs hf
    have hUμ := jU_jr hf hU0
    have u0μ := hUμ 0 (by decide) (by decide)
    have u1μ := hUμ 1 (by decide) (by decide)
    obtain ⟨w0, w1, w2, w3, w4, w6, w7, w8⟩ := id hw
    refine jv_iload_n rfl rfl rfl ?_
    refine jv_aload_n rfl rfl rfl (by decide) ?_
    refine jv_getr (w := 95) rfl rfl rfl ⟨by decide, rfl⟩ rfl rfl ?_
    refine jv_iconst rfl rfl ?_
    refine jv_iaload rfl rfl (by decide) rfl ⟨by omega, by omega⟩ ?_
    refine jv_icmp_ge rfl rfl rfl (fun c14 => ?_) (fun c14 => ?_)
    · refine jv_iload_n rfl rfl rfl ?_
      refine jv_ireturn rfl (Or.inl rfl) ?_
      have hw : w = t 1 := by omega
      rw [hw] at hs
      exact k _ _ hs hf
    · refine jv_iload_n rfl rfl rfl ?_
      refine jv_aload_n rfl rfl rfl (by decide) ?_
      refine jv_iload_n rfl rfl rfl ?_
      refine jv_callV1 rfl rfl rfl rfl ⟨by decide, rfl⟩ (Nat.le_of_ble_eq_true rfl) (mo_carriesIf hUμ (by omega) hw hcf (fun μ18 fμ18 tμ18 => ?_))
      show jV _ _ jm_p_X10_clean _ 19 [some (.inr (.inr 94)), some (.inl s), some (.inl w)] [.inl (jt_y t w (t 0).toNat), .inl s] μ18
      have hUμ18 := jU_jr fμ18 hUμ
      have u0μ18 := hUμ18 0 (by decide) (by decide)
      have u1μ18 := hUμ18 1 (by decide) (by decide)
      refine jv_if_ne rfl rfl rfl (fun c19 => ?_) (fun c19 => ?_)
      · refine jv_iconst rfl rfl ?_
        refine jv_ior rfl rfl ?_
        refine jv_istore_n (fun x => [some (.inr (.inr 94)), some (.inl x), some (.inl w)]) rfl rfl (fun _ => rfl) (fun x1_26 ex1_26 => ?_)
        refine jv_iinc (fun x => [some (.inr (.inr 94)), some (.inl x1_26), some (.inl x)]) rfl rfl rfl ⟨by omega, by omega⟩ (fun _ => rfl) (fun x2_27 ex2_27 => ?_)
        refine jv_goto rfl rfl ?_
        refine ih x1_26 x2_27 μ18 (by omega) (by omega) (by omega) ?_ ?_
        · rw [ex2_27, show (w + 1 - 0).toNat = (w - 0).toNat + 1 by omega]
          refine ⟨s, hs, ?_⟩
          rw [show 0 + (((w - 0).toNat : Nat) : Int) = w by omega]
          first
          | exact Or.inl ⟨by omega, ex1_26⟩
          | exact Or.inr ⟨by omega, by rw [ex1_26]; exact jm_or_0 (jb_is_r _ _ hs)⟩
        · exact (jr_tr hf fμ18)
      · refine jv_iconst rfl rfl ?_
        refine jv_iload_n rfl rfl rfl ?_
        refine jv_ishl rfl rfl ?_
        refine jv_goto rfl rfl ?_
        refine jv_ior rfl rfl ?_
        refine jv_istore_n (fun x => [some (.inr (.inr 94)), some (.inl x), some (.inl w)]) rfl rfl (fun _ => rfl) (fun x1_26_1 ex1_26_1 => ?_)
        refine jv_iinc (fun x => [some (.inr (.inr 94)), some (.inl x1_26_1), some (.inl x)]) rfl rfl rfl ⟨by omega, by omega⟩ (fun _ => rfl) (fun x2_27_1 ex2_27_1 => ?_)
        refine jv_goto rfl rfl ?_
        refine ih x1_26_1 x2_27_1 μ18 (by omega) (by omega) (by omega) ?_ ?_
        · rw [ex2_27_1, show (w + 1 - 0).toNat = (w - 0).toNat + 1 by omega]
          refine ⟨s, hs, ?_⟩
          rw [show 0 + (((w - 0).toNat : Nat) : Int) = w by omega]
          first
          | exact Or.inl ⟨by omega, ex1_26_1⟩
          | exact Or.inr ⟨by omega, by rw [ex1_26_1]; exact jm_or_0 (jb_is_r _ _ hs)⟩
        · exact (jr_tr hf fμ18)
set_option maxRecDepth 10000 in
set_option maxHeartbeats 1000000 in
theorem pr_clean {X : jm_X}   : jp X 106 186 [] := by
  intro μ hI
  obtain ⟨⟨hit, hlan⟩, ⟨ht0, ht1, ht2⟩, ⟨hr0, hr1, hr2⟩, ⟨hst, hfa⟩, htown, hidle, himg, hpast⟩ := id hI
  obtain ⟨hwf, hcf, hkd, hmat, hrel, hh01, hhot, hnc⟩ := id htown
  obtain ⟨⟨r0, r1, r2, r3⟩, rm, rz, rc⟩ := id hrel
  obtain ⟨w0, w1, w2, w3, w4, w6, w7, w8⟩ := id hwf
  have hcf5 : jt_cf (μ 95) 100000 := fun c a b => by have q := hcf c a b; omega
  have hHμ := jH_of hI
  refine jv_enter (d := 199) jm_p_X9_clean [some (.inr (.inr 0))] rfl rfl rfl (Nat.le_of_ble_eq_true rfl) rfl rfl ?_
  refine jv_aload_n rfl rfl rfl (by decide) ?_
  refine jv_callV0 rfl rfl rfl rfl ⟨by decide, rfl⟩ (Nat.le_of_ble_eq_true rfl) (cl_noHotel (fun b1 => ?_) (fun b1 => ?_))
  · show jV _ _ jm_p_X9_clean _ 2 [some (.inr (.inr 0))] [.inl 1] μ
    refine jv_if_eqF rfl rfl (by decide) ?_
    refine jv_ldc rfl rfl ?_
    refine jv_goto rfl rfl ?_
    refine jv_ireturn rfl (Or.inl rfl) ?_
    refine ⟨_, rfl, ?_⟩
    have fc : jf μ μ := jf_id μ
    have hUμ : jU μ (μ 95) := jU_jf fc
    have q94μ : μ 94 1 = μ 94 1 := by rw [fc 94 (by omega)]
    refine jv_enter (d := 199) jm_p_X10_clean [some (.inr (.inr 94)), none, none] rfl rfl rfl (Nat.le_of_ble_eq_true rfl) rfl rfl ?_
    refine jv_aload_n rfl rfl rfl (by decide) ?_
    refine jv_geti rfl rfl rfl ⟨by decide, rfl⟩ (by decide) ?_
    refine jv_if_ne rfl rfl rfl (fun c2 => ?_) (fun c2 => ?_)
    · first
      | (exfalso; omega)
      | skip
        refine jv_iconst rfl rfl ?_
        refine jv_istore_nK (L2 := [some (.inr (.inr 94)), some (.inl 0), none]) rfl rfl rfl ?_
        refine jv_iconst rfl rfl ?_
        refine jv_istore_nK (L2 := [some (.inr (.inr 94)), some (.inl 0), some (.inl 0)]) rfl rfl rfl ?_
        refine mo_clean_l hUμ hwf hcf5 (fun s2 μz b2 fz => ?_) 9 0 0 μ (by omega) w1.1 (by omega) rfl (jr_id _)
        exact ⟨jv_one (jb_is_one _ _ _ (fun _ _ _ => Iff.rfl) b2 bμ), jI_pair hI fc fz⟩
    · first
      | (exfalso; omega)
      | skip
        refine jv_ldc rfl rfl ?_
        refine jv_ireturn rfl (Or.inl rfl) ?_
        exact ⟨jv_one (by omega), jI_pair hI fc (jr_id _)⟩
  · show jV _ _ jm_p_X9_clean _ 2 [some (.inr (.inr 0))] [.inl 0] μ
    refine jv_if_eqT rfl rfl (by decide) ?_
    refine jv_aload_n rfl rfl rfl (by decide) ?_
    refine jv_getr (w := 49) rfl rfl rfl ⟨by decide, rfl⟩ rfl rfl ?_
    refine jv_aload_n rfl rfl rfl (by decide) ?_
    refine jv_getr (w := 7) rfl rfl rfl ⟨by decide, rfl⟩ rfl rfl ?_
    refine jv_callV1 rfl rfl rfl rfl ⟨by decide, rfl⟩ (Nat.le_of_ble_eq_true rfl) (cl_cleanOnes hHμ (fun sμ9 μ9 bμ9 fμ9 => ?_))
    show jV _ _ jm_p_X9_clean _ 10 [some (.inr (.inr 0))] [.inl sμ9] μ9
    refine jv_ireturn rfl (Or.inl rfl) ?_
    refine ⟨_, rfl, ?_⟩
    have fc : jf μ μ9 := fμ9
    have hUμ9 : jU μ9 (μ 95) := jU_jf fc
    have u0μ9 := hUμ9 0 (by decide) (by decide)
    have u1μ9 := hUμ9 1 (by decide) (by decide)
    have q94μ9 : μ9 94 1 = μ 94 1 := by rw [fc 94 (by omega)]
    refine jv_enter (d := 199) jm_p_X10_clean [some (.inr (.inr 94)), none, none] rfl rfl rfl (Nat.le_of_ble_eq_true rfl) rfl rfl ?_
    refine jv_aload_n rfl rfl rfl (by decide) ?_
    refine jv_geti rfl rfl rfl ⟨by decide, rfl⟩ (by decide) ?_
    refine jv_if_ne rfl rfl rfl (fun c2 => ?_) (fun c2 => ?_)
    · first
      | (exfalso; omega)
      | skip
        refine jv_iconst rfl rfl ?_
        refine jv_istore_nK (L2 := [some (.inr (.inr 94)), some (.inl 0), none]) rfl rfl rfl ?_
        refine jv_iconst rfl rfl ?_
        refine jv_istore_nK (L2 := [some (.inr (.inr 94)), some (.inl 0), some (.inl 0)]) rfl rfl rfl ?_
        refine mo_clean_l hUμ9 hwf hcf5 (fun s2 μz b2 fz => ?_) 9 0 0 μ9 (by omega) w1.1 (by omega) rfl (jr_id _)
        exact ⟨jv_one (jb_is_one _ _ _ (fun _ _ _ => Iff.rfl) b2 bμ9), jI_pair hI fc fz⟩
    · first
      | (exfalso; omega)
      | skip
        refine jv_ldc rfl rfl ?_
        refine jv_ireturn rfl (Or.inl rfl) ?_
        exact ⟨jv_one (by omega), jI_pair hI fc (jr_id _)⟩
