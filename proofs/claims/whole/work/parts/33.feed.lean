set_option maxRecDepth 10000 in
theorem cl_isFull {X : jm_X} {d : Nat} {Q : jv_P} {μ : jm_M}  (k1 : 100 ≤ μ 5 1 → Q [.inl 1] μ) (k0 : ¬ (100 ≤ μ 5 1) → Q [.inl 0] μ) : cV X (d + 1) 57 [.inr (.inr 5)] μ Q := by
  refine jv_enter (d := d + 0) jm_p_X6_isFull [some (.inr (.inr 5))] rfl rfl rfl (Nat.le_of_ble_eq_true rfl) rfl rfl ?_
  refine jv_aload_n rfl rfl rfl (by decide) ?_
  refine jv_geti rfl rfl rfl ⟨by decide, rfl⟩ (by decide) ?_
  refine jv_bipush rfl rfl ?_
  refine jv_icmp_lt rfl rfl rfl (fun c3 => ?_) (fun c3 => ?_)
  · refine jv_iconst rfl rfl ?_
    refine jv_ireturn rfl (Or.inr ⟨rfl, by decide⟩) ?_
    exact k0 (by omega)
  · refine jv_iconst rfl rfl ?_
    refine jv_goto rfl rfl ?_
    refine jv_ireturn rfl (Or.inr ⟨rfl, by decide⟩) ?_
    exact k1 (by omega)
set_option maxRecDepth 10000 in
theorem cl_append {X : jm_X} {d : Nat} {Q : jv_P} {μ : jm_M} {y : Int} (h : 0 ≤ μ 5 1 ∧ μ 5 1 < 100) (k : ∀ μ2, μ2 = jm_uc (jm_uc μ 6 (jm_u1 (μ 6) (μ 5 1) y)) 5 (jm_u1 (μ 5) 1 (μ 5 1 + 1)) → Q [.inl (μ 5 1 + 1)] μ2) : cV X (d + 1) 59 [.inr (.inr 5), .inl y] μ Q := by
  refine jv_enter (d := d + 0) jm_p_X6_append [some (.inr (.inr 5)), some (.inl y)] rfl rfl rfl (Nat.le_of_ble_eq_true rfl) rfl rfl ?_
  refine jv_aload_n rfl rfl rfl (by decide) ?_
  refine jv_geti rfl rfl rfl ⟨by decide, rfl⟩ (by decide) ?_
  refine jv_bipush rfl rfl ?_
  refine jv_icmp_geF rfl rfl (by omega) ?_
  refine jv_aload_n rfl rfl rfl (by decide) ?_
  refine jv_getr (w := 6) rfl rfl rfl ⟨by decide, rfl⟩ rfl rfl ?_
  refine jv_aload_n rfl rfl rfl (by decide) ?_
  refine jv_geti rfl rfl rfl ⟨by decide, rfl⟩ (by decide) ?_
  refine jv_iload_n rfl rfl rfl ?_
  refine jv_iastore rfl rfl rfl (by decide) ⟨by omega, by omega⟩ (fun μ9 eμ9 => ?_)
  refine jv_aload_n rfl rfl rfl (by decide) ?_
  refine jv_dupr rfl rfl ?_
  refine jv_geti rfl rfl rfl ⟨by decide, rfl⟩ (by decide) ?_
  refine jv_iconst rfl rfl ?_
  refine jv_iadd rfl rfl (by rw [eμ9]; exact ⟨by show _ ≤ μ 5 1 + 1; omega, by show μ 5 1 + 1 ≤ _; omega⟩) ?_
  refine jv_puti rfl rfl rfl ⟨by decide, rfl⟩ (Or.inl rfl) (fun μ15 eμ15 => ?_)
  refine jv_aload_n rfl rfl rfl (by decide) ?_
  refine jv_geti rfl rfl rfl ⟨by decide, rfl⟩ (by decide) ?_
  refine jv_ireturn rfl (Or.inl rfl) ?_
  have e1 : μ15 = jm_uc (jm_uc μ 6 (jm_u1 (μ 6) (μ 5 1) y)) 5 (jm_u1 (μ 5) 1 (μ 5 1 + 1)) := by rw [eμ15, eμ9]; rfl
  have e2 : μ15 5 1 = μ 5 1 + 1 := by rw [e1]; rfl
  rw [e2]
  exact k _ e1
set_option maxRecDepth 10000 in
set_option maxHeartbeats 1000000 in
theorem pr_feed {X : jm_X} {y : Int} (r_y : jm_r y) : jp X 92 147 [.inl y] := by
  intro μ hI
  obtain ⟨⟨hit, hlan⟩, ⟨ht0, ht1, ht2⟩, ⟨hr0, hr1, hr2⟩, ⟨hst, hfa⟩, htown, hidle, himg, hpast⟩ := id hI
  obtain ⟨hwf, hcf, hkd, hmat, hrel, hh01, hhot, hnc⟩ := id htown
  obtain ⟨⟨r0, r1, r2, r3⟩, rm, rz, rc⟩ := id hrel
  obtain ⟨w0, w1, w2, w3, w4, w6, w7, w8⟩ := id hwf
  refine jv_enter (d := 199) jm_p_X9_feed [some (.inr (.inr 0)), some (.inl y)] rfl rfl rfl (Nat.le_of_ble_eq_true rfl) rfl rfl ?_
  refine jv_iload_n rfl rfl rfl ?_
  refine jv_if_lt rfl rfl rfl (fun c1 => ?_) (fun c1 => ?_)
  · refine jv_ldc rfl rfl ?_
    refine jv_ireturn rfl (Or.inl rfl) ?_
    refine ⟨_, rfl, ?_⟩
    
    refine jv_enter (d := 199) jm_p_X10_feed [some (.inr (.inr 94)), some (.inl y)] rfl rfl rfl (Nat.le_of_ble_eq_true rfl) rfl rfl ?_
    refine jv_iload_n rfl rfl rfl ?_
    refine jv_i2l rfl rfl ?_
    refine jv_lconst rfl rfl ?_
    refine jv_ldc2_w rfl rfl ?_
    refine jv_callS3 rfl rfl rfl (Nat.le_of_ble_eq_true rfl) (mo_in (fun b4 => ?_) (fun b4 => ?_))
    · first
      | (exfalso; omega)
      | skip
        show jV _ _ jm_p_X10_feed _ 5 [some (.inr (.inr 94)), some (.inl y)] [.inl 1] μ
        refine jv_if_neT rfl rfl (by decide) ?_
        refine jv_aload_n rfl rfl rfl (by decide) ?_
        refine jv_geti rfl rfl rfl ⟨by decide, rfl⟩ (by decide) ?_
        refine jv_bipush rfl rfl ?_
        refine jv_icmp_ne rfl rfl rfl (fun c11 => ?_) (fun c11 => ?_)
        · first
          | (exfalso; omega)
          | skip
            refine jv_aload_n rfl rfl rfl (by decide) ?_
            refine jv_getr (w := 100) rfl rfl rfl ⟨by decide, rfl⟩ rfl rfl ?_
            refine jv_aload_n rfl rfl rfl (by decide) ?_
            refine jv_geti rfl rfl rfl ⟨by decide, rfl⟩ (by decide) ?_
            refine jv_iload_n rfl rfl rfl ?_
            refine jv_iastore rfl rfl rfl (by decide) ⟨by omega, by omega⟩ (fun ν19 eν19 => ?_)
            refine jv_aload_n rfl rfl rfl (by decide) ?_
            refine jv_dupr rfl rfl ?_
            refine jv_geti rfl rfl rfl ⟨by decide, rfl⟩ (by decide) ?_
            refine jv_iconst rfl rfl ?_
            refine jv_iadd rfl rfl (by rw [eν19]; exact ⟨by show _ ≤ μ16 94 8 + 1; omega, by show μ16 94 8 + 1 ≤ _; omega⟩) ?_
            refine jv_puti rfl rfl rfl ⟨by decide, rfl⟩ (Or.inl rfl) (fun ν25 eν25 => ?_)
            refine jv_aload_n rfl rfl rfl (by decide) ?_
            refine jv_geti rfl rfl rfl ⟨by decide, rfl⟩ (by decide) ?_
            refine jv_ireturn rfl (Or.inl rfl) ?_
            exact ⟨jv_one (by omega), hI⟩
        · first
          | (exfalso; omega)
          | skip
            refine jv_ldc rfl rfl ?_
            refine jv_ireturn rfl (Or.inl rfl) ?_
            exact ⟨jv_one (by omega), hI⟩
    · first
      | (exfalso; omega)
      | skip
        show jV _ _ jm_p_X10_feed _ 5 [some (.inr (.inr 94)), some (.inl y)] [.inl 0] μ
        refine jv_if_neF rfl rfl (by decide) ?_
        refine jv_ldc rfl rfl ?_
        refine jv_ireturn rfl (Or.inl rfl) ?_
        exact ⟨jv_one (by omega), hI⟩
  · refine jv_iload_n rfl rfl rfl ?_
    refine jv_sipush rfl rfl ?_
    refine jv_icmp_le rfl rfl rfl (fun c4 => ?_) (fun c4 => ?_)
    · refine jv_aload_n rfl rfl rfl (by decide) ?_
      refine jv_getr (w := 5) rfl rfl rfl ⟨by decide, rfl⟩ rfl rfl ?_
      refine jv_callV0 rfl rfl rfl rfl ⟨by decide, rfl⟩ (Nat.le_of_ble_eq_true rfl) (cl_isFull (fun b9 => ?_) (fun b9 => ?_))
      · show jV _ _ jm_p_X9_feed _ 10 [some (.inr (.inr 0)), some (.inl y)] [.inl 1] μ
        refine jv_if_eqF rfl rfl (by decide) ?_
        refine jv_ldc rfl rfl ?_
        refine jv_ireturn rfl (Or.inl rfl) ?_
        refine ⟨_, rfl, ?_⟩
        
        refine jv_enter (d := 199) jm_p_X10_feed [some (.inr (.inr 94)), some (.inl y)] rfl rfl rfl (Nat.le_of_ble_eq_true rfl) rfl rfl ?_
        refine jv_iload_n rfl rfl rfl ?_
        refine jv_i2l rfl rfl ?_
        refine jv_lconst rfl rfl ?_
        refine jv_ldc2_w rfl rfl ?_
        refine jv_callS3 rfl rfl rfl (Nat.le_of_ble_eq_true rfl) (mo_in (fun b4 => ?_) (fun b4 => ?_))
        · first
          | (exfalso; omega)
          | skip
            show jV _ _ jm_p_X10_feed _ 5 [some (.inr (.inr 94)), some (.inl y)] [.inl 1] μ
            refine jv_if_neT rfl rfl (by decide) ?_
            refine jv_aload_n rfl rfl rfl (by decide) ?_
            refine jv_geti rfl rfl rfl ⟨by decide, rfl⟩ (by decide) ?_
            refine jv_bipush rfl rfl ?_
            refine jv_icmp_ne rfl rfl rfl (fun c11 => ?_) (fun c11 => ?_)
            · first
              | (exfalso; omega)
              | skip
                refine jv_aload_n rfl rfl rfl (by decide) ?_
                refine jv_getr (w := 100) rfl rfl rfl ⟨by decide, rfl⟩ rfl rfl ?_
                refine jv_aload_n rfl rfl rfl (by decide) ?_
                refine jv_geti rfl rfl rfl ⟨by decide, rfl⟩ (by decide) ?_
                refine jv_iload_n rfl rfl rfl ?_
                refine jv_iastore rfl rfl rfl (by decide) ⟨by omega, by omega⟩ (fun ν19 eν19 => ?_)
                refine jv_aload_n rfl rfl rfl (by decide) ?_
                refine jv_dupr rfl rfl ?_
                refine jv_geti rfl rfl rfl ⟨by decide, rfl⟩ (by decide) ?_
                refine jv_iconst rfl rfl ?_
                refine jv_iadd rfl rfl (by rw [eν19]; exact ⟨by show _ ≤ μ16 94 8 + 1; omega, by show μ16 94 8 + 1 ≤ _; omega⟩) ?_
                refine jv_puti rfl rfl rfl ⟨by decide, rfl⟩ (Or.inl rfl) (fun ν25 eν25 => ?_)
                refine jv_aload_n rfl rfl rfl (by decide) ?_
                refine jv_geti rfl rfl rfl ⟨by decide, rfl⟩ (by decide) ?_
                refine jv_ireturn rfl (Or.inl rfl) ?_
                exact ⟨jv_one (by omega), hI⟩
            · first
              | (exfalso; omega)
              | skip
                refine jv_ldc rfl rfl ?_
                refine jv_ireturn rfl (Or.inl rfl) ?_
                exact ⟨jv_one (by omega), hI⟩
        · first
          | (exfalso; omega)
          | skip
            show jV _ _ jm_p_X10_feed _ 5 [some (.inr (.inr 94)), some (.inl y)] [.inl 0] μ
            refine jv_if_neF rfl rfl (by decide) ?_
            refine jv_ldc rfl rfl ?_
            refine jv_ireturn rfl (Or.inl rfl) ?_
            exact ⟨jv_one (by omega), hI⟩
      · show jV _ _ jm_p_X9_feed _ 10 [some (.inr (.inr 0)), some (.inl y)] [.inl 0] μ
        refine jv_if_eqT rfl rfl (by decide) ?_
        refine jv_aload_n rfl rfl rfl (by decide) ?_
        refine jv_getr (w := 5) rfl rfl rfl ⟨by decide, rfl⟩ rfl rfl ?_
        refine jv_iload_n rfl rfl rfl ?_
        refine jv_callV1 rfl rfl rfl rfl ⟨by decide, rfl⟩ (Nat.le_of_ble_eq_true rfl) (cl_append (by omega) (fun μ16 eμ16 => ?_))
        show jV _ _ jm_p_X9_feed _ 17 [some (.inr (.inr 0)), some (.inl y)] [.inl (μ 5 1 + 1)] μ16
        refine jv_ireturn rfl (Or.inl rfl) ?_
        refine ⟨_, rfl, ?_⟩
        have f0 : μ16 94 8 = μ 94 8 := by rw [eμ16]; rfl
        refine jv_enter (d := 199) jm_p_X10_feed [some (.inr (.inr 94)), some (.inl y)] rfl rfl rfl (Nat.le_of_ble_eq_true rfl) rfl rfl ?_
        refine jv_iload_n rfl rfl rfl ?_
        refine jv_i2l rfl rfl ?_
        refine jv_lconst rfl rfl ?_
        refine jv_ldc2_w rfl rfl ?_
        refine jv_callS3 rfl rfl rfl (Nat.le_of_ble_eq_true rfl) (mo_in (fun b4 => ?_) (fun b4 => ?_))
        · first
          | (exfalso; omega)
          | skip
            show jV _ _ jm_p_X10_feed _ 5 [some (.inr (.inr 94)), some (.inl y)] [.inl 1] μ16
            refine jv_if_neT rfl rfl (by decide) ?_
            refine jv_aload_n rfl rfl rfl (by decide) ?_
            refine jv_geti rfl rfl rfl ⟨by decide, rfl⟩ (by decide) ?_
            refine jv_bipush rfl rfl ?_
            refine jv_icmp_ne rfl rfl rfl (fun c11 => ?_) (fun c11 => ?_)
            · first
              | (exfalso; omega)
              | skip
                refine jv_aload_n rfl rfl rfl (by decide) ?_
                refine jv_getr (w := 100) rfl rfl rfl ⟨by decide, rfl⟩ rfl rfl ?_
                refine jv_aload_n rfl rfl rfl (by decide) ?_
                refine jv_geti rfl rfl rfl ⟨by decide, rfl⟩ (by decide) ?_
                refine jv_iload_n rfl rfl rfl ?_
                refine jv_iastore rfl rfl rfl (by decide) ⟨by omega, by omega⟩ (fun ν19 eν19 => ?_)
                refine jv_aload_n rfl rfl rfl (by decide) ?_
                refine jv_dupr rfl rfl ?_
                refine jv_geti rfl rfl rfl ⟨by decide, rfl⟩ (by decide) ?_
                refine jv_iconst rfl rfl ?_
                refine jv_iadd rfl rfl (by rw [eν19]; exact ⟨by show _ ≤ μ16 94 8 + 1; omega, by show μ16 94 8 + 1 ≤ _; omega⟩) ?_
                refine jv_puti rfl rfl rfl ⟨by decide, rfl⟩ (Or.inl rfl) (fun ν25 eν25 => ?_)
                refine jv_aload_n rfl rfl rfl (by decide) ?_
                refine jv_geti rfl rfl rfl ⟨by decide, rfl⟩ (by decide) ?_
                refine jv_ireturn rfl (Or.inl rfl) ?_
                have e0 : μ16 = jm_uc (jm_uc μ 6 (jm_u1 (μ 6) (μ 5 1) y)) 5 (jm_u1 (μ 5) 1 (μ 5 1 + 1)) := eμ16
                have e1 : ν25 = jm_uc (jm_uc μ16 100 (jm_u1 (μ16 100) (μ16 94 8) y)) 94 (jm_u1 (μ16 94) 8 (μ16 94 8 + 1)) := by rw [eν25, eν19]; rfl
                have e2 : ν25 94 8 = μ 94 8 + 1 := by rw [e1, e0]; rfl
                have e3 : ν25 5 1 = μ 5 1 + 1 := by rw [e1, e0]; rfl
                refine ⟨jv_one (by omega), jI_tapeC hI ⟨by omega, by omega, fun j j0 j1 => ?_⟩ (fun z a b c d => ?_) ?_ ?_ ?_ ?_ ?_⟩
                · have e6 : ν25 6 j = jm_u1 (μ 6) (μ 5 1) y j := by rw [e1, e0]; rfl
                  have e7 : ν25 100 j = jm_u1 (μ 100) (μ 94 8) y j := by rw [e1, e0]; rfl
                  rw [e6, e7, ht0]
                  unfold jm_u1
                  split
                  · omega
                  · exact ht2 j j0 (by omega)
                · rw [e1, e0, jm_off1 c, jm_off1 d, jm_off1 a, jm_off1 b]
                all_goals (rw [e1, e0]; rfl)
            · first
              | (exfalso; omega)
              | skip
                refine jv_ldc rfl rfl ?_
                refine jv_ireturn rfl (Or.inl rfl) ?_
                exact ⟨jv_one (by omega), hI⟩
        · first
          | (exfalso; omega)
          | skip
            show jV _ _ jm_p_X10_feed _ 5 [some (.inr (.inr 94)), some (.inl y)] [.inl 0] μ16
            refine jv_if_neF rfl rfl (by decide) ?_
            refine jv_ldc rfl rfl ?_
            refine jv_ireturn rfl (Or.inl rfl) ?_
            exact ⟨jv_one (by omega), hI⟩
    · refine jv_ldc rfl rfl ?_
      refine jv_ireturn rfl (Or.inl rfl) ?_
      refine ⟨_, rfl, ?_⟩
      
      refine jv_enter (d := 199) jm_p_X10_feed [some (.inr (.inr 94)), some (.inl y)] rfl rfl rfl (Nat.le_of_ble_eq_true rfl) rfl rfl ?_
      refine jv_iload_n rfl rfl rfl ?_
      refine jv_i2l rfl rfl ?_
      refine jv_lconst rfl rfl ?_
      refine jv_ldc2_w rfl rfl ?_
      refine jv_callS3 rfl rfl rfl (Nat.le_of_ble_eq_true rfl) (mo_in (fun b4 => ?_) (fun b4 => ?_))
      · first
        | (exfalso; omega)
        | skip
          show jV _ _ jm_p_X10_feed _ 5 [some (.inr (.inr 94)), some (.inl y)] [.inl 1] μ
          refine jv_if_neT rfl rfl (by decide) ?_
          refine jv_aload_n rfl rfl rfl (by decide) ?_
          refine jv_geti rfl rfl rfl ⟨by decide, rfl⟩ (by decide) ?_
          refine jv_bipush rfl rfl ?_
          refine jv_icmp_ne rfl rfl rfl (fun c11 => ?_) (fun c11 => ?_)
          · first
            | (exfalso; omega)
            | skip
              refine jv_aload_n rfl rfl rfl (by decide) ?_
              refine jv_getr (w := 100) rfl rfl rfl ⟨by decide, rfl⟩ rfl rfl ?_
              refine jv_aload_n rfl rfl rfl (by decide) ?_
              refine jv_geti rfl rfl rfl ⟨by decide, rfl⟩ (by decide) ?_
              refine jv_iload_n rfl rfl rfl ?_
              refine jv_iastore rfl rfl rfl (by decide) ⟨by omega, by omega⟩ (fun ν19 eν19 => ?_)
              refine jv_aload_n rfl rfl rfl (by decide) ?_
              refine jv_dupr rfl rfl ?_
              refine jv_geti rfl rfl rfl ⟨by decide, rfl⟩ (by decide) ?_
              refine jv_iconst rfl rfl ?_
              refine jv_iadd rfl rfl (by rw [eν19]; exact ⟨by show _ ≤ μ16 94 8 + 1; omega, by show μ16 94 8 + 1 ≤ _; omega⟩) ?_
              refine jv_puti rfl rfl rfl ⟨by decide, rfl⟩ (Or.inl rfl) (fun ν25 eν25 => ?_)
              refine jv_aload_n rfl rfl rfl (by decide) ?_
              refine jv_geti rfl rfl rfl ⟨by decide, rfl⟩ (by decide) ?_
              refine jv_ireturn rfl (Or.inl rfl) ?_
              exact ⟨jv_one (by omega), hI⟩
          · first
            | (exfalso; omega)
            | skip
              refine jv_ldc rfl rfl ?_
              refine jv_ireturn rfl (Or.inl rfl) ?_
              exact ⟨jv_one (by omega), hI⟩
      · first
        | (exfalso; omega)
        | skip
          show jV _ _ jm_p_X10_feed _ 5 [some (.inr (.inr 94)), some (.inl y)] [.inl 0] μ
          refine jv_if_neF rfl rfl (by decide) ?_
          refine jv_ldc rfl rfl ?_
          refine jv_ireturn rfl (Or.inl rfl) ?_
          exact ⟨jv_one (by omega), hI⟩
