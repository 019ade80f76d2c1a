set_option maxRecDepth 10000 in
theorem cl_readM_l {X : jm_X} {d : Nat} {Q : jv_P} {g : Int → Int} {N : Int} {B : jR} {μ0 : jm_M} (hid : ∀ m, 0 ≤ m → m < 4 → μ0 25 m = 27 + 2 * m) (k1 : ∀ a T μ2, B = (0, a, T) → jtv T → 1 ≤ T 0 → jrd μ2 g N a → μ2 5 3 = 0 → jdr μ2 T → jfr μ0 μ2 → Q [.inl 1] μ2) (k0 : ∀ w a μ2, B = (w, a, jZ) → w ≠ 0 → jbad μ0 μ2 N a w → Q [.inl 0] μ2) : ∀ (k : Nat) (a : Int) (T : Int → Int) (o2 : Option jm_V) (μ : jm_M), T 0 + k = 4 → (a < N ∧ g a = 109) → jtv T → jrd μ g N a → μ 5 3 = 0 → jdr μ T → jfr μ0 μ → jpM g N (k + 1) a T = B → jV X (d + 3) jm_p_X6_readMats Q 0 [some (.inr (.inr 5)), some (.inr (.inr 24)), o2] [] μ := by
  intro k
  induction k with
  | zero =>
    intro a T o2 μ hk ha ht Rμ Wμ hd hf hB
    have Gμ : ∀ z, z ≠ 5 → z ≠ 24 → z ≠ (27 + 2 * T 0) → μ z = μ z := fun _ _ _ _ => rfl
    have V_0_μ : μ 24 = μ 24 := rfl
    have V_1_μ : μ (27 + 2 * T 0) = μ (27 + 2 * T 0) := rfl
    have t0 := ht.1.1
    refine jv_aload_n rfl rfl rfl (by decide) ?_
    refine jv_callV0 rfl rfl rfl rfl ⟨by decide, rfl⟩ (Nat.le_of_ble_eq_true rfl) (cl_seen Rμ (fun q1 => ?_) (fun q1 => ?_))
    · first
      | (exfalso; omega)
      | skip
        show jV _ _ jm_p_X6_readMats _ 2 [some (.inr (.inr 5)), some (.inr (.inr 24)), o2] [.inl (g a)] μ
        refine jv_bipush rfl rfl ?_
        refine jv_icmp_ne rfl rfl rfl (fun c3 => ?_) (fun c3 => ?_)
        · first
          | (exfalso; omega)
          | skip
            refine jv_aload_n rfl rfl rfl (by decide) ?_
            refine jv_bipush rfl rfl ?_
            refine jv_callV1 rfl rfl rfl rfl ⟨by decide, rfl⟩ (Nat.le_of_ble_eq_true rfl) (cl_takeB Rμ (by decide) (fun μ14 eμ14 oμ14 => ?_) (fun μ14 eμ14 nμ14 => ?_))
            · first
              | (exfalso; omega)
              | skip
                show jV _ _ jm_p_X6_readMats _ 15 [some (.inr (.inr 5)), some (.inr (.inr 24)), o2] [.inl 1] μ14
                have Rμ14 : jrd μ14 g N (a + 1) := oμ14.1
                have Wμ14 : μ14 5 3 = 0 := oμ14.2.2.trans Wμ
                have Gμ14 : ∀ z, z ≠ 5 → z ≠ 24 → z ≠ (27 + 2 * T 0) → μ14 z = μ z := fun z p0 p1 p2 => (oμ14.2.1 z p0).trans (Gμ z p0 p1 p2)
                have V_0_μ14 : μ14 24 = (μ 24) := by rw [oμ14.2.1 24 (by omega), V_0_μ]
                have V_1_μ14 : μ14 (27 + 2 * T 0) = (μ (27 + 2 * T 0)) := by rw [oμ14.2.1 (27 + 2 * T 0) (by omega), V_1_μ]
                refine jv_if_neT rfl rfl (by decide) ?_
                refine jv_aload_n rfl rfl rfl (by decide) ?_
                refine jv_iconst rfl rfl ?_
                refine jv_iconst rfl rfl ?_
                refine jv_callV2 rfl rfl rfl rfl ⟨by decide, rfl⟩ (Nat.le_of_ble_eq_true rfl) (cl_takeN Rμ14 (fun b21 v21 μ21 eμ21 lμ21 uμ21 oμ21 => ?_) (fun w21 μ21 eμ21 lμ21 nμ21 => ?_))
                · first
                  | (exfalso; omega)
                  | skip
                    show jV _ _ jm_p_X6_readMats _ 22 [some (.inr (.inr 5)), some (.inr (.inr 24)), o2] [.inl v21] μ21
                    have Rμ21 : jrd μ21 g N b21 := oμ21.1
                    have Wμ21 : μ21 5 3 = 0 := oμ21.2.2.trans Wμ14
                    have Gμ21 : ∀ z, z ≠ 5 → z ≠ 24 → z ≠ (27 + 2 * T 0) → μ21 z = μ z := fun z p0 p1 p2 => (oμ21.2.1 z p0).trans (Gμ14 z p0 p1 p2)
                    have V_0_μ21 : μ21 24 = (μ 24) := by rw [oμ21.2.1 24 (by omega), V_0_μ14]
                    have V_1_μ21 : μ21 (27 + 2 * T 0) = (μ (27 + 2 * T 0)) := by rw [oμ21.2.1 (27 + 2 * T 0) (by omega), V_1_μ14]
                    refine jv_istore_n (fun x => [some (.inr (.inr 5)), some (.inr (.inr 24)), some (.inl x)]) rfl rfl (fun _ => rfl) (fun x2_22 ex2_22 => ?_)
                    refine jv_iload_n rfl rfl rfl ?_
                    refine jv_iconst rfl rfl ?_
                    refine jv_icmp_eqF rfl rfl (by omega) ?_
                    refine jv_aload_n rfl rfl rfl (by decide) ?_
                    refine jv_bipush rfl rfl ?_
                    refine jv_callV1 rfl rfl rfl rfl ⟨by decide, rfl⟩ (Nat.le_of_ble_eq_true rfl) (cl_takeB Rμ21 (by decide) (fun μ28 eμ28 oμ28 => ?_) (fun μ28 eμ28 nμ28 => ?_))
                    · first
                      | (exfalso; omega)
                      | skip
                        show jV _ _ jm_p_X6_readMats _ 29 [some (.inr (.inr 5)), some (.inr (.inr 24)), some (.inl x2_22)] [.inl 1] μ28
                        have Rμ28 : jrd μ28 g N (b21 + 1) := oμ28.1
                        have Wμ28 : μ28 5 3 = 0 := oμ28.2.2.trans Wμ21
                        have Gμ28 : ∀ z, z ≠ 5 → z ≠ 24 → z ≠ (27 + 2 * T 0) → μ28 z = μ z := fun z p0 p1 p2 => (oμ28.2.1 z p0).trans (Gμ21 z p0 p1 p2)
                        have V_0_μ28 : μ28 24 = (μ 24) := by rw [oμ28.2.1 24 (by omega), V_0_μ21]
                        have V_1_μ28 : μ28 (27 + 2 * T 0) = (μ (27 + 2 * T 0)) := by rw [oμ28.2.1 (27 + 2 * T 0) (by omega), V_1_μ21]
                        refine jv_if_neT rfl rfl (by decide) ?_
                        refine jv_aload_n rfl rfl rfl (by decide) ?_
                        refine jv_getr (w := 25) rfl rfl rfl ⟨by decide, rfl⟩ rfl rfl ?_
                        refine jv_aload_n rfl rfl rfl (by decide) ?_
                        refine jv_geti rfl rfl rfl ⟨by decide, rfl⟩ (by decide) ?_
                        rw [show μ28 24 2 = (T 0) by rw [V_0_μ28]; exact hd.1.2.2.1]
                        refine jv_aaloadv (v := 27 + 2 * T 0) rfl rfl rfl ⟨by decide, by decide, by decide⟩ ⟨by omega, by omega⟩ (by rw [Gμ28 25 (by decide) (by decide) (by omega), hf 25 (by omega)]; exact hid (T 0) (by omega) (by omega)) ?_
                        refine jv_iload_n rfl rfl rfl ?_
                        refine jv_puti rfl rfl (jz_mat_of (z := 27 + 2 * T 0) (by omega)).1 ⟨by omega, rfl⟩ (Or.inl rfl) (fun μ38 eμ38 => ?_)
                        have Rμ38 : jrd μ38 g N (b21 + 1) := jrd_same Rμ28 (by rw [eμ38, jm_off1 (by omega)]) (by rw [eμ38, jm_off1 (by omega)])
                        have Wμ38 : μ38 5 3 = 0 := by rw [eμ38, jm_off1 (by omega)]; exact Wμ28
                        have V_1_μ38 : μ38 (27 + 2 * T 0) = (jm_u1 (μ (27 + 2 * T 0)) 0 x2_22) := by rw [eμ38, jm_uc_self, V_1_μ28]
                        have V_0_μ38 : μ38 24 = (μ 24) := by rw [eμ38, jm_off1 (by omega), V_0_μ28]
                        have Gμ38 : ∀ z, z ≠ 5 → z ≠ 24 → z ≠ (27 + 2 * T 0) → μ38 z = μ z := fun z p0 p1 p2 => (show μ38 z = μ28 z by rw [eμ38, jm_off1 (by omega)]).trans (Gμ28 z p0 p1 p2)
                        refine jv_aload_n rfl rfl rfl (by decide) ?_
                        refine jv_dupr rfl rfl ?_
                        refine jv_geti rfl rfl rfl ⟨by decide, rfl⟩ (by decide) ?_
                        rw [show μ38 24 2 = (T 0) by rw [V_0_μ38]; exact hd.1.2.2.1]
                        refine jv_iconst rfl rfl ?_
                        refine jv_iadd rfl rfl ⟨by omega, by omega⟩ ?_
                        refine jv_puti rfl rfl rfl ⟨by decide, rfl⟩ (Or.inl rfl) (fun μ44 eμ44 => ?_)
                        have Rμ44 : jrd μ44 g N (b21 + 1) := jrd_same Rμ38 (by rw [eμ44, jm_off1 (by omega)]) (by rw [eμ44, jm_off1 (by omega)])
                        have Wμ44 : μ44 5 3 = 0 := by rw [eμ44, jm_off1 (by omega)]; exact Wμ38
                        have V_0_μ44 : μ44 24 = (jm_u1 (μ 24) 2 ((T 0) + 1)) := by rw [eμ44, jm_uc_self, V_0_μ38]
                        have V_1_μ44 : μ44 (27 + 2 * T 0) = (jm_u1 (μ (27 + 2 * T 0)) 0 x2_22) := by rw [eμ44, jm_off1 (by omega), V_1_μ38]
                        have Gμ44 : ∀ z, z ≠ 5 → z ≠ 24 → z ≠ (27 + 2 * T 0) → μ44 z = μ z := fun z p0 p1 p2 => (show μ44 z = μ38 z by rw [eμ44, jm_off1 (by omega)]).trans (Gμ38 z p0 p1 p2)
                        refine jv_aload_n rfl rfl rfl (by decide) ?_
                        refine jv_geti rfl rfl rfl ⟨by decide, rfl⟩ (by decide) ?_
                        rw [show μ44 24 2 = (T 0 + 1) by rw [V_0_μ44]; exact rfl]
                        refine jv_iconst rfl rfl ?_
                        refine jv_icmp_gt rfl rfl rfl (fun c48 => ?_) (fun c48 => ?_)
                        · first
                          | (exfalso; omega)
                          | skip
                            refine jv_iconst rfl rfl ?_
                            refine jv_ireturn rfl (Or.inr ⟨rfl, by decide⟩) ?_
                            have ht2 : jtv (jm_u1 (jm_u1 T (4 + T 0) v21) 0 (T 0 + 1)) := jtv_mat ht (by omega) lμ21
                            have hd2 : jdr μ44 (jm_u1 (jm_u1 T (4 + T 0) v21) 0 (T 0 + 1)) := jdr_mat ht (by omega) hd (fun z p q r => Gμ44 z p q r) (by rw [V_1_μ44]; exact ex2_22) V_0_μ44
                            have hf2 : jfr μ0 μ44 := fun z q => (Gμ44 z q.1 (by omega) (by omega)).trans (hf z q)
                            have e02 : (jm_u1 (jm_u1 T (4 + T 0) v21) 0 (T 0 + 1)) 0 = T 0 + 1 := if_pos rfl
                            unfold jpM at hB
                            rw [if_pos ha, if_neg (by omega), jbd_ok eμ21, jbd_ok eμ28] at hB
                            have hend : jpM g N (k + 1) (b21 + 1) (jm_u1 (jm_u1 T (4 + T 0) v21) 0 (T 0 + 1)) = (0, (b21 + 1), (jm_u1 (jm_u1 T (4 + T 0) v21) 0 (T 0 + 1))) := by
                              unfold jpM
                              rw [if_neg (fun z => by omega)]
                            rw [hend] at hB
                            exact k1 (b21 + 1) (jm_u1 (jm_u1 T (4 + T 0) v21) 0 (T 0 + 1)) μ44 hB.symm ht2 (by omega) Rμ44 Wμ44 hd2 hf2
                        · first
                          | (exfalso; omega)
                          | skip
                            refine jv_aload_n rfl rfl rfl (by decide) ?_
                            refine jv_callV0 rfl rfl rfl rfl ⟨by decide, rfl⟩ (Nat.le_of_ble_eq_true rfl) (cl_seen Rμ44 (fun q50 => ?_) (fun q50 => ?_))
                            · first
                              | (exfalso; omega)
                              | skip
                                show jV _ _ jm_p_X6_readMats _ 51 [some (.inr (.inr 5)), some (.inr (.inr 24)), some (.inl x2_22)] [.inl (g (b21 + 1))] μ44
                                refine jv_bipush rfl rfl ?_
                                refine jv_icmp_eq rfl rfl rfl (fun c52 => ?_) (fun c52 => ?_)
                                · first
                                  | (exfalso; omega)
                                  | skip
                                    have ht2 : jtv (jm_u1 (jm_u1 T (4 + T 0) v21) 0 (T 0 + 1)) := jtv_mat ht (by omega) lμ21
                                    have hd2 : jdr μ44 (jm_u1 (jm_u1 T (4 + T 0) v21) 0 (T 0 + 1)) := jdr_mat ht (by omega) hd (fun z p q r => Gμ44 z p q r) (by rw [V_1_μ44]; exact ex2_22) V_0_μ44
                                    have hf2 : jfr μ0 μ44 := fun z q => (Gμ44 z q.1 (by omega) (by omega)).trans (hf z q)
                                    have e02 : (jm_u1 (jm_u1 T (4 + T 0) v21) 0 (T 0 + 1)) 0 = T 0 + 1 := if_pos rfl
                                    unfold jpM at hB
                                    rw [if_pos ha, if_neg (by omega), jbd_ok eμ21, jbd_ok eμ28] at hB
                                    exact ih (b21 + 1) (jm_u1 (jm_u1 T (4 + T 0) v21) 0 (T 0 + 1)) _ μ44 (by omega) ⟨by omega, by omega⟩ ht2 Rμ44 Wμ44 hd2 hf2 hB
                                · first
                                  | (exfalso; omega)
                                  | skip
                                    refine jv_iconst rfl rfl ?_
                                    refine jv_ireturn rfl (Or.inr ⟨rfl, by decide⟩) ?_
                                    have ht2 : jtv (jm_u1 (jm_u1 T (4 + T 0) v21) 0 (T 0 + 1)) := jtv_mat ht (by omega) lμ21
                                    have hd2 : jdr μ44 (jm_u1 (jm_u1 T (4 + T 0) v21) 0 (T 0 + 1)) := jdr_mat ht (by omega) hd (fun z p q r => Gμ44 z p q r) (by rw [V_1_μ44]; exact ex2_22) V_0_μ44
                                    have hf2 : jfr μ0 μ44 := fun z q => (Gμ44 z q.1 (by omega) (by omega)).trans (hf z q)
                                    have e02 : (jm_u1 (jm_u1 T (4 + T 0) v21) 0 (T 0 + 1)) 0 = T 0 + 1 := if_pos rfl
                                    unfold jpM at hB
                                    rw [if_pos ha, if_neg (by omega), jbd_ok eμ21, jbd_ok eμ28] at hB
                                    have hend : jpM g N (k + 1) (b21 + 1) (jm_u1 (jm_u1 T (4 + T 0) v21) 0 (T 0 + 1)) = (0, (b21 + 1), (jm_u1 (jm_u1 T (4 + T 0) v21) 0 (T 0 + 1))) := by
                                      unfold jpM
                                      rw [if_neg (fun z => by omega)]
                                    rw [hend] at hB
                                    exact k1 (b21 + 1) (jm_u1 (jm_u1 T (4 + T 0) v21) 0 (T 0 + 1)) μ44 hB.symm ht2 (by omega) Rμ44 Wμ44 hd2 hf2
                            · first
                              | (exfalso; omega)
                              | skip
                                show jV _ _ jm_p_X6_readMats _ 51 [some (.inr (.inr 5)), some (.inr (.inr 24)), some (.inl x2_22)] [.inl (-1)] μ44
                                refine jv_bipush rfl rfl ?_
                                refine jv_icmp_eqF rfl rfl (by decide) ?_
                                refine jv_iconst rfl rfl ?_
                                refine jv_ireturn rfl (Or.inr ⟨rfl, by decide⟩) ?_
                                have ht2 : jtv (jm_u1 (jm_u1 T (4 + T 0) v21) 0 (T 0 + 1)) := jtv_mat ht (by omega) lμ21
                                have hd2 : jdr μ44 (jm_u1 (jm_u1 T (4 + T 0) v21) 0 (T 0 + 1)) := jdr_mat ht (by omega) hd (fun z p q r => Gμ44 z p q r) (by rw [V_1_μ44]; exact ex2_22) V_0_μ44
                                have hf2 : jfr μ0 μ44 := fun z q => (Gμ44 z q.1 (by omega) (by omega)).trans (hf z q)
                                have e02 : (jm_u1 (jm_u1 T (4 + T 0) v21) 0 (T 0 + 1)) 0 = T 0 + 1 := if_pos rfl
                                unfold jpM at hB
                                rw [if_pos ha, if_neg (by omega), jbd_ok eμ21, jbd_ok eμ28] at hB
                                have hend : jpM g N (k + 1) (b21 + 1) (jm_u1 (jm_u1 T (4 + T 0) v21) 0 (T 0 + 1)) = (0, (b21 + 1), (jm_u1 (jm_u1 T (4 + T 0) v21) 0 (T 0 + 1))) := by
                                  unfold jpM
                                  rw [if_neg (fun z => by omega)]
                                rw [hend] at hB
                                exact k1 (b21 + 1) (jm_u1 (jm_u1 T (4 + T 0) v21) 0 (T 0 + 1)) μ44 hB.symm ht2 (by omega) Rμ44 Wμ44 hd2 hf2
                    · first
                      | (exfalso; omega)
                      | skip
                        show jV _ _ jm_p_X6_readMats _ 29 [some (.inr (.inr 5)), some (.inr (.inr 24)), some (.inl x2_22)] [.inl 0] μ28
                        have Gμ28 : ∀ z, z ≠ 5 → z ≠ 24 → z ≠ (27 + 2 * T 0) → μ28 z = μ z := fun z p0 p1 p2 => (nμ28.1 z p0).trans (Gμ21 z p0 p1 p2)
                        refine jv_if_neF rfl rfl (by decide) ?_
                        refine jv_iconst rfl rfl ?_
                        refine jv_ireturn rfl (Or.inr ⟨rfl, by decide⟩) ?_
                        unfold jpM at hB
                        rw [if_pos ha, if_neg (by omega), jbd_ok eμ21, jbd_no eμ28 (by decide)] at hB
                        exact k0 1 b21 μ28 hB.symm (by omega) ⟨fun z q => (Gμ28 z q.1 (by omega) (by omega)).trans (hf z q), by exact nμ28.2.1, by exact nμ28.2.2.1, by exact nμ28.2.2.2⟩
                · first
                  | (exfalso; omega)
                  | skip
                    show jV _ _ jm_p_X6_readMats _ 22 [some (.inr (.inr 5)), some (.inr (.inr 24)), o2] [.inl (-1)] μ21
                    have Gμ21 : ∀ z, z ≠ 5 → z ≠ 24 → z ≠ (27 + 2 * T 0) → μ21 z = μ z := fun z p0 p1 p2 => (nμ21.1 z p0).trans (Gμ14 z p0 p1 p2)
                    refine jv_istore_nK (L2 := [some (.inr (.inr 5)), some (.inr (.inr 24)), some (.inl (-1))]) rfl rfl rfl ?_
                    refine jv_iload_n rfl rfl rfl ?_
                    refine jv_iconst rfl rfl ?_
                    refine jv_icmp_eqT rfl rfl (by decide) ?_
                    refine jv_iconst rfl rfl ?_
                    refine jv_ireturn rfl (Or.inr ⟨rfl, by decide⟩) ?_
                    unfold jpM at hB
                    rw [if_pos ha, if_neg (by omega), jbd_no eμ21 (by omega)] at hB
                    exact k0 w21 (a + 1) μ21 hB.symm (by omega) ⟨fun z q => (Gμ21 z q.1 (by omega) (by omega)).trans (hf z q), by exact nμ21.2.1, by exact nμ21.2.2.1, by exact nμ21.2.2.2⟩
            · first
              | (exfalso; omega)
              | skip
                show jV _ _ jm_p_X6_readMats _ 15 [some (.inr (.inr 5)), some (.inr (.inr 24)), o2] [.inl 0] μ14
                have Gμ14 : ∀ z, z ≠ 5 → z ≠ 24 → z ≠ (27 + 2 * T 0) → μ14 z = μ z := fun z p0 p1 p2 => (nμ14.1 z p0).trans (Gμ z p0 p1 p2)
                refine jv_if_neF rfl rfl (by decide) ?_
                refine jv_iconst rfl rfl ?_
                refine jv_ireturn rfl (Or.inr ⟨rfl, by decide⟩) ?_
                exfalso
                unfold jps at eμ14
                rw [if_pos ha] at eμ14
                exact absurd (congrArg Prod.fst eμ14) (show ¬ (0 : Int) = 1 by decide)
        · first
          | (exfalso; omega)
          | skip
            refine jv_aload_n rfl rfl rfl (by decide) ?_
            refine jv_geti rfl rfl rfl ⟨by decide, rfl⟩ (by decide) ?_
            rw [show μ 24 2 = (T 0) by rw [V_0_μ]; exact hd.1.2.2.1]
            refine jv_iconst rfl rfl ?_
            refine jv_icmp_ltF rfl rfl (by omega) ?_
            refine jv_aload_n rfl rfl rfl (by decide) ?_
            refine jv_iconst rfl rfl ?_
            refine jv_callV1 rfl rfl rfl rfl ⟨by decide, rfl⟩ (Nat.le_of_ble_eq_true rfl) (cl_refuse (fun μ10 eμ10 => ?_))
            show jV _ _ jm_p_X6_readMats _ 11 [some (.inr (.inr 5)), some (.inr (.inr 24)), o2] [.inl 0] μ10
            have nμ10 : jno μ μ10 N a 3 := ⟨fun z q => by rw [eμ10, jm_off1 q], by rw [eμ10]; exact Rμ.1, by rw [eμ10]; exact Rμ.2.1, by rw [eμ10]; rfl⟩
            have Gμ10 : ∀ z, z ≠ 5 → z ≠ 24 → z ≠ (27 + 2 * T 0) → μ10 z = μ z := fun z p0 p1 p2 => (nμ10.1 z p0).trans (Gμ z p0 p1 p2)
            refine jv_ireturn rfl (Or.inr ⟨rfl, by decide⟩) ?_
            unfold jpM at hB
            rw [if_pos ha, if_pos (by omega)] at hB
            exact k0 3 a μ10 hB.symm (by decide) ⟨fun z q => (Gμ10 z q.1 (by omega) (by omega)).trans (hf z q), by exact nμ10.2.1, by exact nμ10.2.2.1, by exact nμ10.2.2.2⟩
    · first
      | (exfalso; omega)
      | skip
        show jV _ _ jm_p_X6_readMats _ 2 [some (.inr (.inr 5)), some (.inr (.inr 24)), o2] [.inl (-1)] μ
        refine jv_bipush rfl rfl ?_
        refine jv_icmp_neT rfl rfl (by decide) ?_
        refine jv_aload_n rfl rfl rfl (by decide) ?_
        refine jv_bipush rfl rfl ?_
        refine jv_callV1 rfl rfl rfl rfl ⟨by decide, rfl⟩ (Nat.le_of_ble_eq_true rfl) (cl_takeB Rμ (by decide) (fun μ14_1 eμ14_1 oμ14_1 => ?_) (fun μ14_1 eμ14_1 nμ14_1 => ?_))
        · first
          | (exfalso; omega)
          | skip
            show jV _ _ jm_p_X6_readMats _ 15 [some (.inr (.inr 5)), some (.inr (.inr 24)), o2] [.inl 1] μ14_1
            have Rμ14_1 : jrd μ14_1 g N (a + 1) := oμ14_1.1
            have Wμ14_1 : μ14_1 5 3 = 0 := oμ14_1.2.2.trans Wμ
            have Gμ14_1 : ∀ z, z ≠ 5 → z ≠ 24 → z ≠ (27 + 2 * T 0) → μ14_1 z = μ z := fun z p0 p1 p2 => (oμ14_1.2.1 z p0).trans (Gμ z p0 p1 p2)
            have V_0_μ14_1 : μ14_1 24 = (μ 24) := by rw [oμ14_1.2.1 24 (by omega), V_0_μ]
            have V_1_μ14_1 : μ14_1 (27 + 2 * T 0) = (μ (27 + 2 * T 0)) := by rw [oμ14_1.2.1 (27 + 2 * T 0) (by omega), V_1_μ]
            refine jv_if_neT rfl rfl (by decide) ?_
            refine jv_aload_n rfl rfl rfl (by decide) ?_
            refine jv_iconst rfl rfl ?_
            refine jv_iconst rfl rfl ?_
            refine jv_callV2 rfl rfl rfl rfl ⟨by decide, rfl⟩ (Nat.le_of_ble_eq_true rfl) (cl_takeN Rμ14_1 (fun b21 v21 μ21_1 eμ21_1 lμ21_1 uμ21_1 oμ21_1 => ?_) (fun w21 μ21_1 eμ21_1 lμ21_1 nμ21_1 => ?_))
            · first
              | (exfalso; omega)
              | skip
                show jV _ _ jm_p_X6_readMats _ 22 [some (.inr (.inr 5)), some (.inr (.inr 24)), o2] [.inl v21] μ21_1
                have Rμ21_1 : jrd μ21_1 g N b21 := oμ21_1.1
                have Wμ21_1 : μ21_1 5 3 = 0 := oμ21_1.2.2.trans Wμ14_1
                have Gμ21_1 : ∀ z, z ≠ 5 → z ≠ 24 → z ≠ (27 + 2 * T 0) → μ21_1 z = μ z := fun z p0 p1 p2 => (oμ21_1.2.1 z p0).trans (Gμ14_1 z p0 p1 p2)
                have V_0_μ21_1 : μ21_1 24 = (μ 24) := by rw [oμ21_1.2.1 24 (by omega), V_0_μ14_1]
                have V_1_μ21_1 : μ21_1 (27 + 2 * T 0) = (μ (27 + 2 * T 0)) := by rw [oμ21_1.2.1 (27 + 2 * T 0) (by omega), V_1_μ14_1]
                refine jv_istore_n (fun x => [some (.inr (.inr 5)), some (.inr (.inr 24)), some (.inl x)]) rfl rfl (fun _ => rfl) (fun x2_22_1 ex2_22_1 => ?_)
                refine jv_iload_n rfl rfl rfl ?_
                refine jv_iconst rfl rfl ?_
                refine jv_icmp_eqF rfl rfl (by omega) ?_
                refine jv_aload_n rfl rfl rfl (by decide) ?_
                refine jv_bipush rfl rfl ?_
                refine jv_callV1 rfl rfl rfl rfl ⟨by decide, rfl⟩ (Nat.le_of_ble_eq_true rfl) (cl_takeB Rμ21_1 (by decide) (fun μ28_1 eμ28_1 oμ28_1 => ?_) (fun μ28_1 eμ28_1 nμ28_1 => ?_))
                · first
                  | (exfalso; omega)
                  | skip
                    show jV _ _ jm_p_X6_readMats _ 29 [some (.inr (.inr 5)), some (.inr (.inr 24)), some (.inl x2_22_1)] [.inl 1] μ28_1
                    have Rμ28_1 : jrd μ28_1 g N (b21 + 1) := oμ28_1.1
                    have Wμ28_1 : μ28_1 5 3 = 0 := oμ28_1.2.2.trans Wμ21_1
                    have Gμ28_1 : ∀ z, z ≠ 5 → z ≠ 24 → z ≠ (27 + 2 * T 0) → μ28_1 z = μ z := fun z p0 p1 p2 => (oμ28_1.2.1 z p0).trans (Gμ21_1 z p0 p1 p2)
                    have V_0_μ28_1 : μ28_1 24 = (μ 24) := by rw [oμ28_1.2.1 24 (by omega), V_0_μ21_1]
                    have V_1_μ28_1 : μ28_1 (27 + 2 * T 0) = (μ (27 + 2 * T 0)) := by rw [oμ28_1.2.1 (27 + 2 * T 0) (by omega), V_1_μ21_1]
                    refine jv_if_neT rfl rfl (by decide) ?_
                    refine jv_aload_n rfl rfl rfl (by decide) ?_
                    refine jv_getr (w := 25) rfl rfl rfl ⟨by decide, rfl⟩ rfl rfl ?_
                    refine jv_aload_n rfl rfl rfl (by decide) ?_
                    refine jv_geti rfl rfl rfl ⟨by decide, rfl⟩ (by decide) ?_
                    rw [show μ28_1 24 2 = (T 0) by rw [V_0_μ28_1]; exact hd.1.2.2.1]
                    refine jv_aaloadv (v := 27 + 2 * T 0) rfl rfl rfl ⟨by decide, by decide, by decide⟩ ⟨by omega, by omega⟩ (by rw [Gμ28_1 25 (by decide) (by decide) (by omega), hf 25 (by omega)]; exact hid (T 0) (by omega) (by omega)) ?_
                    refine jv_iload_n rfl rfl rfl ?_
                    refine jv_puti rfl rfl (jz_mat_of (z := 27 + 2 * T 0) (by omega)).1 ⟨by omega, rfl⟩ (Or.inl rfl) (fun μ38_1 eμ38_1 => ?_)
                    have Rμ38_1 : jrd μ38_1 g N (b21 + 1) := jrd_same Rμ28_1 (by rw [eμ38_1, jm_off1 (by omega)]) (by rw [eμ38_1, jm_off1 (by omega)])
                    have Wμ38_1 : μ38_1 5 3 = 0 := by rw [eμ38_1, jm_off1 (by omega)]; exact Wμ28_1
                    have V_1_μ38_1 : μ38_1 (27 + 2 * T 0) = (jm_u1 (μ (27 + 2 * T 0)) 0 x2_22_1) := by rw [eμ38_1, jm_uc_self, V_1_μ28_1]
                    have V_0_μ38_1 : μ38_1 24 = (μ 24) := by rw [eμ38_1, jm_off1 (by omega), V_0_μ28_1]
                    have Gμ38_1 : ∀ z, z ≠ 5 → z ≠ 24 → z ≠ (27 + 2 * T 0) → μ38_1 z = μ z := fun z p0 p1 p2 => (show μ38_1 z = μ28_1 z by rw [eμ38_1, jm_off1 (by omega)]).trans (Gμ28_1 z p0 p1 p2)
                    refine jv_aload_n rfl rfl rfl (by decide) ?_
                    refine jv_dupr rfl rfl ?_
                    refine jv_geti rfl rfl rfl ⟨by decide, rfl⟩ (by decide) ?_
                    rw [show μ38_1 24 2 = (T 0) by rw [V_0_μ38_1]; exact hd.1.2.2.1]
                    refine jv_iconst rfl rfl ?_
                    refine jv_iadd rfl rfl ⟨by omega, by omega⟩ ?_
                    refine jv_puti rfl rfl rfl ⟨by decide, rfl⟩ (Or.inl rfl) (fun μ44_1 eμ44_1 => ?_)
                    have Rμ44_1 : jrd μ44_1 g N (b21 + 1) := jrd_same Rμ38_1 (by rw [eμ44_1, jm_off1 (by omega)]) (by rw [eμ44_1, jm_off1 (by omega)])
                    have Wμ44_1 : μ44_1 5 3 = 0 := by rw [eμ44_1, jm_off1 (by omega)]; exact Wμ38_1
                    have V_0_μ44_1 : μ44_1 24 = (jm_u1 (μ 24) 2 ((T 0) + 1)) := by rw [eμ44_1, jm_uc_self, V_0_μ38_1]
                    have V_1_μ44_1 : μ44_1 (27 + 2 * T 0) = (jm_u1 (μ (27 + 2 * T 0)) 0 x2_22_1) := by rw [eμ44_1, jm_off1 (by omega), V_1_μ38_1]
                    have Gμ44_1 : ∀ z, z ≠ 5 → z ≠ 24 → z ≠ (27 + 2 * T 0) → μ44_1 z = μ z := fun z p0 p1 p2 => (show μ44_1 z = μ38_1 z by rw [eμ44_1, jm_off1 (by omega)]).trans (Gμ38_1 z p0 p1 p2)
                    refine jv_aload_n rfl rfl rfl (by decide) ?_
                    refine jv_geti rfl rfl rfl ⟨by decide, rfl⟩ (by decide) ?_
                    rw [show μ44_1 24 2 = (T 0 + 1) by rw [V_0_μ44_1]; exact rfl]
                    refine jv_iconst rfl rfl ?_
                    refine jv_icmp_gt rfl rfl rfl (fun c48_1 => ?_) (fun c48_1 => ?_)
                    · first
                      | (exfalso; omega)
                      | skip
                        refine jv_iconst rfl rfl ?_
                        refine jv_ireturn rfl (Or.inr ⟨rfl, by decide⟩) ?_
                        have ht2 : jtv (jm_u1 (jm_u1 T (4 + T 0) v21) 0 (T 0 + 1)) := jtv_mat ht (by omega) lμ21_1
                        have hd2 : jdr μ44_1 (jm_u1 (jm_u1 T (4 + T 0) v21) 0 (T 0 + 1)) := jdr_mat ht (by omega) hd (fun z p q r => Gμ44_1 z p q r) (by rw [V_1_μ44_1]; exact ex2_22_1) V_0_μ44_1
                        have hf2 : jfr μ0 μ44_1 := fun z q => (Gμ44_1 z q.1 (by omega) (by omega)).trans (hf z q)
                        have e02 : (jm_u1 (jm_u1 T (4 + T 0) v21) 0 (T 0 + 1)) 0 = T 0 + 1 := if_pos rfl
                        unfold jpM at hB
                        rw [if_pos ha, if_neg (by omega), jbd_ok eμ21_1, jbd_ok eμ28_1] at hB
                        have hend : jpM g N (k + 1) (b21 + 1) (jm_u1 (jm_u1 T (4 + T 0) v21) 0 (T 0 + 1)) = (0, (b21 + 1), (jm_u1 (jm_u1 T (4 + T 0) v21) 0 (T 0 + 1))) := by
                          unfold jpM
                          rw [if_neg (fun z => by omega)]
                        rw [hend] at hB
                        exact k1 (b21 + 1) (jm_u1 (jm_u1 T (4 + T 0) v21) 0 (T 0 + 1)) μ44_1 hB.symm ht2 (by omega) Rμ44_1 Wμ44_1 hd2 hf2
                    · first
                      | (exfalso; omega)
                      | skip
                        refine jv_aload_n rfl rfl rfl (by decide) ?_
                        refine jv_callV0 rfl rfl rfl rfl ⟨by decide, rfl⟩ (Nat.le_of_ble_eq_true rfl) (cl_seen Rμ44_1 (fun q50 => ?_) (fun q50 => ?_))
                        · first
                          | (exfalso; omega)
                          | skip
                            show jV _ _ jm_p_X6_readMats _ 51 [some (.inr (.inr 5)), some (.inr (.inr 24)), some (.inl x2_22_1)] [.inl (g (b21 + 1))] μ44_1
                            refine jv_bipush rfl rfl ?_
                            refine jv_icmp_eq rfl rfl rfl (fun c52_1 => ?_) (fun c52_1 => ?_)
                            · first
                              | (exfalso; omega)
                              | skip
                                have ht2 : jtv (jm_u1 (jm_u1 T (4 + T 0) v21) 0 (T 0 + 1)) := jtv_mat ht (by omega) lμ21_1
                                have hd2 : jdr μ44_1 (jm_u1 (jm_u1 T (4 + T 0) v21) 0 (T 0 + 1)) := jdr_mat ht (by omega) hd (fun z p q r => Gμ44_1 z p q r) (by rw [V_1_μ44_1]; exact ex2_22_1) V_0_μ44_1
                                have hf2 : jfr μ0 μ44_1 := fun z q => (Gμ44_1 z q.1 (by omega) (by omega)).trans (hf z q)
                                have e02 : (jm_u1 (jm_u1 T (4 + T 0) v21) 0 (T 0 + 1)) 0 = T 0 + 1 := if_pos rfl
                                unfold jpM at hB
                                rw [if_pos ha, if_neg (by omega), jbd_ok eμ21_1, jbd_ok eμ28_1] at hB
                                exact ih (b21 + 1) (jm_u1 (jm_u1 T (4 + T 0) v21) 0 (T 0 + 1)) _ μ44_1 (by omega) ⟨by omega, by omega⟩ ht2 Rμ44_1 Wμ44_1 hd2 hf2 hB
                            · first
                              | (exfalso; omega)
                              | skip
                                refine jv_iconst rfl rfl ?_
                                refine jv_ireturn rfl (Or.inr ⟨rfl, by decide⟩) ?_
                                have ht2 : jtv (jm_u1 (jm_u1 T (4 + T 0) v21) 0 (T 0 + 1)) := jtv_mat ht (by omega) lμ21_1
                                have hd2 : jdr μ44_1 (jm_u1 (jm_u1 T (4 + T 0) v21) 0 (T 0 + 1)) := jdr_mat ht (by omega) hd (fun z p q r => Gμ44_1 z p q r) (by rw [V_1_μ44_1]; exact ex2_22_1) V_0_μ44_1
                                have hf2 : jfr μ0 μ44_1 := fun z q => (Gμ44_1 z q.1 (by omega) (by omega)).trans (hf z q)
                                have e02 : (jm_u1 (jm_u1 T (4 + T 0) v21) 0 (T 0 + 1)) 0 = T 0 + 1 := if_pos rfl
                                unfold jpM at hB
                                rw [if_pos ha, if_neg (by omega), jbd_ok eμ21_1, jbd_ok eμ28_1] at hB
                                have hend : jpM g N (k + 1) (b21 + 1) (jm_u1 (jm_u1 T (4 + T 0) v21) 0 (T 0 + 1)) = (0, (b21 + 1), (jm_u1 (jm_u1 T (4 + T 0) v21) 0 (T 0 + 1))) := by
                                  unfold jpM
                                  rw [if_neg (fun z => by omega)]
                                rw [hend] at hB
                                exact k1 (b21 + 1) (jm_u1 (jm_u1 T (4 + T 0) v21) 0 (T 0 + 1)) μ44_1 hB.symm ht2 (by omega) Rμ44_1 Wμ44_1 hd2 hf2
                        · first
                          | (exfalso; omega)
                          | skip
                            show jV _ _ jm_p_X6_readMats _ 51 [some (.inr (.inr 5)), some (.inr (.inr 24)), some (.inl x2_22_1)] [.inl (-1)] μ44_1
                            refine jv_bipush rfl rfl ?_
                            refine jv_icmp_eqF rfl rfl (by decide) ?_
                            refine jv_iconst rfl rfl ?_
                            refine jv_ireturn rfl (Or.inr ⟨rfl, by decide⟩) ?_
                            have ht2 : jtv (jm_u1 (jm_u1 T (4 + T 0) v21) 0 (T 0 + 1)) := jtv_mat ht (by omega) lμ21_1
                            have hd2 : jdr μ44_1 (jm_u1 (jm_u1 T (4 + T 0) v21) 0 (T 0 + 1)) := jdr_mat ht (by omega) hd (fun z p q r => Gμ44_1 z p q r) (by rw [V_1_μ44_1]; exact ex2_22_1) V_0_μ44_1
                            have hf2 : jfr μ0 μ44_1 := fun z q => (Gμ44_1 z q.1 (by omega) (by omega)).trans (hf z q)
                            have e02 : (jm_u1 (jm_u1 T (4 + T 0) v21) 0 (T 0 + 1)) 0 = T 0 + 1 := if_pos rfl
                            unfold jpM at hB
                            rw [if_pos ha, if_neg (by omega), jbd_ok eμ21_1, jbd_ok eμ28_1] at hB
                            have hend : jpM g N (k + 1) (b21 + 1) (jm_u1 (jm_u1 T (4 + T 0) v21) 0 (T 0 + 1)) = (0, (b21 + 1), (jm_u1 (jm_u1 T (4 + T 0) v21) 0 (T 0 + 1))) := by
                              unfold jpM
                              rw [if_neg (fun z => by omega)]
                            rw [hend] at hB
                            exact k1 (b21 + 1) (jm_u1 (jm_u1 T (4 + T 0) v21) 0 (T 0 + 1)) μ44_1 hB.symm ht2 (by omega) Rμ44_1 Wμ44_1 hd2 hf2
                · first
                  | (exfalso; omega)
                  | skip
                    show jV _ _ jm_p_X6_readMats _ 29 [some (.inr (.inr 5)), some (.inr (.inr 24)), some (.inl x2_22_1)] [.inl 0] μ28_1
                    have Gμ28_1 : ∀ z, z ≠ 5 → z ≠ 24 → z ≠ (27 + 2 * T 0) → μ28_1 z = μ z := fun z p0 p1 p2 => (nμ28_1.1 z p0).trans (Gμ21_1 z p0 p1 p2)
                    refine jv_if_neF rfl rfl (by decide) ?_
                    refine jv_iconst rfl rfl ?_
                    refine jv_ireturn rfl (Or.inr ⟨rfl, by decide⟩) ?_
                    unfold jpM at hB
                    rw [if_pos ha, if_neg (by omega), jbd_ok eμ21_1, jbd_no eμ28_1 (by decide)] at hB
                    exact k0 1 b21 μ28_1 hB.symm (by omega) ⟨fun z q => (Gμ28_1 z q.1 (by omega) (by omega)).trans (hf z q), by exact nμ28_1.2.1, by exact nμ28_1.2.2.1, by exact nμ28_1.2.2.2⟩
            · first
              | (exfalso; omega)
              | skip
                show jV _ _ jm_p_X6_readMats _ 22 [some (.inr (.inr 5)), some (.inr (.inr 24)), o2] [.inl (-1)] μ21_1
                have Gμ21_1 : ∀ z, z ≠ 5 → z ≠ 24 → z ≠ (27 + 2 * T 0) → μ21_1 z = μ z := fun z p0 p1 p2 => (nμ21_1.1 z p0).trans (Gμ14_1 z p0 p1 p2)
                refine jv_istore_nK (L2 := [some (.inr (.inr 5)), some (.inr (.inr 24)), some (.inl (-1))]) rfl rfl rfl ?_
                refine jv_iload_n rfl rfl rfl ?_
                refine jv_iconst rfl rfl ?_
                refine jv_icmp_eqT rfl rfl (by decide) ?_
                refine jv_iconst rfl rfl ?_
                refine jv_ireturn rfl (Or.inr ⟨rfl, by decide⟩) ?_
                unfold jpM at hB
                rw [if_pos ha, if_neg (by omega), jbd_no eμ21_1 (by omega)] at hB
                exact k0 w21 (a + 1) μ21_1 hB.symm (by omega) ⟨fun z q => (Gμ21_1 z q.1 (by omega) (by omega)).trans (hf z q), by exact nμ21_1.2.1, by exact nμ21_1.2.2.1, by exact nμ21_1.2.2.2⟩
        · first
          | (exfalso; omega)
          | skip
            show jV _ _ jm_p_X6_readMats _ 15 [some (.inr (.inr 5)), some (.inr (.inr 24)), o2] [.inl 0] μ14_1
            have Gμ14_1 : ∀ z, z ≠ 5 → z ≠ 24 → z ≠ (27 + 2 * T 0) → μ14_1 z = μ z := fun z p0 p1 p2 => (nμ14_1.1 z p0).trans (Gμ z p0 p1 p2)
            refine jv_if_neF rfl rfl (by decide) ?_
            refine jv_iconst rfl rfl ?_
            refine jv_ireturn rfl (Or.inr ⟨rfl, by decide⟩) ?_
            exfalso
            unfold jps at eμ14_1
            rw [if_pos ha] at eμ14_1
            exact absurd (congrArg Prod.fst eμ14_1) (show ¬ (0 : Int) = 1 by decide)
  | succ k ih =>
    intro a T o2 μ hk ha ht Rμ Wμ hd hf hB
    have Gμ : ∀ z, z ≠ 5 → z ≠ 24 → z ≠ (27 + 2 * T 0) → μ z = μ z := fun _ _ _ _ => rfl
    have V_0_μ : μ 24 = μ 24 := rfl
    have V_1_μ : μ (27 + 2 * T 0) = μ (27 + 2 * T 0) := rfl
    have t0 := ht.1.1
    refine jv_aload_n rfl rfl rfl (by decide) ?_
    refine jv_callV0 rfl rfl rfl rfl ⟨by decide, rfl⟩ (Nat.le_of_ble_eq_true rfl) (cl_seen Rμ (fun q1 => ?_) (fun q1 => ?_))
    · first
      | (exfalso; omega)
      | skip
        show jV _ _ jm_p_X6_readMats _ 2 [some (.inr (.inr 5)), some (.inr (.inr 24)), o2] [.inl (g a)] μ
        refine jv_bipush rfl rfl ?_
        refine jv_icmp_ne rfl rfl rfl (fun c3 => ?_) (fun c3 => ?_)
        · first
          | (exfalso; omega)
          | skip
            refine jv_aload_n rfl rfl rfl (by decide) ?_
            refine jv_bipush rfl rfl ?_
            refine jv_callV1 rfl rfl rfl rfl ⟨by decide, rfl⟩ (Nat.le_of_ble_eq_true rfl) (cl_takeB Rμ (by decide) (fun μ14 eμ14 oμ14 => ?_) (fun μ14 eμ14 nμ14 => ?_))
            · first
              | (exfalso; omega)
              | skip
                show jV _ _ jm_p_X6_readMats _ 15 [some (.inr (.inr 5)), some (.inr (.inr 24)), o2] [.inl 1] μ14
                have Rμ14 : jrd μ14 g N (a + 1) := oμ14.1
                have Wμ14 : μ14 5 3 = 0 := oμ14.2.2.trans Wμ
                have Gμ14 : ∀ z, z ≠ 5 → z ≠ 24 → z ≠ (27 + 2 * T 0) → μ14 z = μ z := fun z p0 p1 p2 => (oμ14.2.1 z p0).trans (Gμ z p0 p1 p2)
                have V_0_μ14 : μ14 24 = (μ 24) := by rw [oμ14.2.1 24 (by omega), V_0_μ]
                have V_1_μ14 : μ14 (27 + 2 * T 0) = (μ (27 + 2 * T 0)) := by rw [oμ14.2.1 (27 + 2 * T 0) (by omega), V_1_μ]
                refine jv_if_neT rfl rfl (by decide) ?_
                refine jv_aload_n rfl rfl rfl (by decide) ?_
                refine jv_iconst rfl rfl ?_
                refine jv_iconst rfl rfl ?_
                refine jv_callV2 rfl rfl rfl rfl ⟨by decide, rfl⟩ (Nat.le_of_ble_eq_true rfl) (cl_takeN Rμ14 (fun b21 v21 μ21 eμ21 lμ21 uμ21 oμ21 => ?_) (fun w21 μ21 eμ21 lμ21 nμ21 => ?_))
                · first
                  | (exfalso; omega)
                  | skip
                    show jV _ _ jm_p_X6_readMats _ 22 [some (.inr (.inr 5)), some (.inr (.inr 24)), o2] [.inl v21] μ21
                    have Rμ21 : jrd μ21 g N b21 := oμ21.1
                    have Wμ21 : μ21 5 3 = 0 := oμ21.2.2.trans Wμ14
                    have Gμ21 : ∀ z, z ≠ 5 → z ≠ 24 → z ≠ (27 + 2 * T 0) → μ21 z = μ z := fun z p0 p1 p2 => (oμ21.2.1 z p0).trans (Gμ14 z p0 p1 p2)
                    have V_0_μ21 : μ21 24 = (μ 24) := by rw [oμ21.2.1 24 (by omega), V_0_μ14]
                    have V_1_μ21 : μ21 (27 + 2 * T 0) = (μ (27 + 2 * T 0)) := by rw [oμ21.2.1 (27 + 2 * T 0) (by omega), V_1_μ14]
                    refine jv_istore_n (fun x => [some (.inr (.inr 5)), some (.inr (.inr 24)), some (.inl x)]) rfl rfl (fun _ => rfl) (fun x2_22 ex2_22 => ?_)
                    refine jv_iload_n rfl rfl rfl ?_
                    refine jv_iconst rfl rfl ?_
                    refine jv_icmp_eqF rfl rfl (by omega) ?_
                    refine jv_aload_n rfl rfl rfl (by decide) ?_
                    refine jv_bipush rfl rfl ?_
                    refine jv_callV1 rfl rfl rfl rfl ⟨by decide, rfl⟩ (Nat.le_of_ble_eq_true rfl) (cl_takeB Rμ21 (by decide) (fun μ28 eμ28 oμ28 => ?_) (fun μ28 eμ28 nμ28 => ?_))
                    · first
                      | (exfalso; omega)
                      | skip
                        show jV _ _ jm_p_X6_readMats _ 29 [some (.inr (.inr 5)), some (.inr (.inr 24)), some (.inl x2_22)] [.inl 1] μ28
                        have Rμ28 : jrd μ28 g N (b21 + 1) := oμ28.1
                        have Wμ28 : μ28 5 3 = 0 := oμ28.2.2.trans Wμ21
                        have Gμ28 : ∀ z, z ≠ 5 → z ≠ 24 → z ≠ (27 + 2 * T 0) → μ28 z = μ z := fun z p0 p1 p2 => (oμ28.2.1 z p0).trans (Gμ21 z p0 p1 p2)
                        have V_0_μ28 : μ28 24 = (μ 24) := by rw [oμ28.2.1 24 (by omega), V_0_μ21]
                        have V_1_μ28 : μ28 (27 + 2 * T 0) = (μ (27 + 2 * T 0)) := by rw [oμ28.2.1 (27 + 2 * T 0) (by omega), V_1_μ21]
                        refine jv_if_neT rfl rfl (by decide) ?_
                        refine jv_aload_n rfl rfl rfl (by decide) ?_
                        refine jv_getr (w := 25) rfl rfl rfl ⟨by decide, rfl⟩ rfl rfl ?_
                        refine jv_aload_n rfl rfl rfl (by decide) ?_
                        refine jv_geti rfl rfl rfl ⟨by decide, rfl⟩ (by decide) ?_
                        rw [show μ28 24 2 = (T 0) by rw [V_0_μ28]; exact hd.1.2.2.1]
                        refine jv_aaloadv (v := 27 + 2 * T 0) rfl rfl rfl ⟨by decide, by decide, by decide⟩ ⟨by omega, by omega⟩ (by rw [Gμ28 25 (by decide) (by decide) (by omega), hf 25 (by omega)]; exact hid (T 0) (by omega) (by omega)) ?_
                        refine jv_iload_n rfl rfl rfl ?_
                        refine jv_puti rfl rfl (jz_mat_of (z := 27 + 2 * T 0) (by omega)).1 ⟨by omega, rfl⟩ (Or.inl rfl) (fun μ38 eμ38 => ?_)
                        have Rμ38 : jrd μ38 g N (b21 + 1) := jrd_same Rμ28 (by rw [eμ38, jm_off1 (by omega)]) (by rw [eμ38, jm_off1 (by omega)])
                        have Wμ38 : μ38 5 3 = 0 := by rw [eμ38, jm_off1 (by omega)]; exact Wμ28
                        have V_1_μ38 : μ38 (27 + 2 * T 0) = (jm_u1 (μ (27 + 2 * T 0)) 0 x2_22) := by rw [eμ38, jm_uc_self, V_1_μ28]
                        have V_0_μ38 : μ38 24 = (μ 24) := by rw [eμ38, jm_off1 (by omega), V_0_μ28]
                        have Gμ38 : ∀ z, z ≠ 5 → z ≠ 24 → z ≠ (27 + 2 * T 0) → μ38 z = μ z := fun z p0 p1 p2 => (show μ38 z = μ28 z by rw [eμ38, jm_off1 (by omega)]).trans (Gμ28 z p0 p1 p2)
                        refine jv_aload_n rfl rfl rfl (by decide) ?_
                        refine jv_dupr rfl rfl ?_
                        refine jv_geti rfl rfl rfl ⟨by decide, rfl⟩ (by decide) ?_
                        rw [show μ38 24 2 = (T 0) by rw [V_0_μ38]; exact hd.1.2.2.1]
                        refine jv_iconst rfl rfl ?_
                        refine jv_iadd rfl rfl ⟨by omega, by omega⟩ ?_
                        refine jv_puti rfl rfl rfl ⟨by decide, rfl⟩ (Or.inl rfl) (fun μ44 eμ44 => ?_)
                        have Rμ44 : jrd μ44 g N (b21 + 1) := jrd_same Rμ38 (by rw [eμ44, jm_off1 (by omega)]) (by rw [eμ44, jm_off1 (by omega)])
                        have Wμ44 : μ44 5 3 = 0 := by rw [eμ44, jm_off1 (by omega)]; exact Wμ38
                        have V_0_μ44 : μ44 24 = (jm_u1 (μ 24) 2 ((T 0) + 1)) := by rw [eμ44, jm_uc_self, V_0_μ38]
                        have V_1_μ44 : μ44 (27 + 2 * T 0) = (jm_u1 (μ (27 + 2 * T 0)) 0 x2_22) := by rw [eμ44, jm_off1 (by omega), V_1_μ38]
                        have Gμ44 : ∀ z, z ≠ 5 → z ≠ 24 → z ≠ (27 + 2 * T 0) → μ44 z = μ z := fun z p0 p1 p2 => (show μ44 z = μ38 z by rw [eμ44, jm_off1 (by omega)]).trans (Gμ38 z p0 p1 p2)
                        refine jv_aload_n rfl rfl rfl (by decide) ?_
                        refine jv_geti rfl rfl rfl ⟨by decide, rfl⟩ (by decide) ?_
                        rw [show μ44 24 2 = (T 0 + 1) by rw [V_0_μ44]; exact rfl]
                        refine jv_iconst rfl rfl ?_
                        refine jv_icmp_gtF rfl rfl (by omega) ?_
                        refine jv_aload_n rfl rfl rfl (by decide) ?_
                        refine jv_callV0 rfl rfl rfl rfl ⟨by decide, rfl⟩ (Nat.le_of_ble_eq_true rfl) (cl_seen Rμ44 (fun q50 => ?_) (fun q50 => ?_))
                        · first
                          | (exfalso; omega)
                          | skip
                            show jV _ _ jm_p_X6_readMats _ 51 [some (.inr (.inr 5)), some (.inr (.inr 24)), some (.inl x2_22)] [.inl (g (b21 + 1))] μ44
                            refine jv_bipush rfl rfl ?_
                            refine jv_icmp_eq rfl rfl rfl (fun c52 => ?_) (fun c52 => ?_)
                            · first
                              | (exfalso; omega)
                              | skip
                                have ht2 : jtv (jm_u1 (jm_u1 T (4 + T 0) v21) 0 (T 0 + 1)) := jtv_mat ht (by omega) lμ21
                                have hd2 : jdr μ44 (jm_u1 (jm_u1 T (4 + T 0) v21) 0 (T 0 + 1)) := jdr_mat ht (by omega) hd (fun z p q r => Gμ44 z p q r) (by rw [V_1_μ44]; exact ex2_22) V_0_μ44
                                have hf2 : jfr μ0 μ44 := fun z q => (Gμ44 z q.1 (by omega) (by omega)).trans (hf z q)
                                have e02 : (jm_u1 (jm_u1 T (4 + T 0) v21) 0 (T 0 + 1)) 0 = T 0 + 1 := if_pos rfl
                                unfold jpM at hB
                                rw [if_pos ha, if_neg (by omega), jbd_ok eμ21, jbd_ok eμ28] at hB
                                exact ih (b21 + 1) (jm_u1 (jm_u1 T (4 + T 0) v21) 0 (T 0 + 1)) _ μ44 (by omega) ⟨by omega, by omega⟩ ht2 Rμ44 Wμ44 hd2 hf2 hB
                            · first
                              | (exfalso; omega)
                              | skip
                                refine jv_iconst rfl rfl ?_
                                refine jv_ireturn rfl (Or.inr ⟨rfl, by decide⟩) ?_
                                have ht2 : jtv (jm_u1 (jm_u1 T (4 + T 0) v21) 0 (T 0 + 1)) := jtv_mat ht (by omega) lμ21
                                have hd2 : jdr μ44 (jm_u1 (jm_u1 T (4 + T 0) v21) 0 (T 0 + 1)) := jdr_mat ht (by omega) hd (fun z p q r => Gμ44 z p q r) (by rw [V_1_μ44]; exact ex2_22) V_0_μ44
                                have hf2 : jfr μ0 μ44 := fun z q => (Gμ44 z q.1 (by omega) (by omega)).trans (hf z q)
                                have e02 : (jm_u1 (jm_u1 T (4 + T 0) v21) 0 (T 0 + 1)) 0 = T 0 + 1 := if_pos rfl
                                unfold jpM at hB
                                rw [if_pos ha, if_neg (by omega), jbd_ok eμ21, jbd_ok eμ28] at hB
                                have hend : jpM g N (k + 1) (b21 + 1) (jm_u1 (jm_u1 T (4 + T 0) v21) 0 (T 0 + 1)) = (0, (b21 + 1), (jm_u1 (jm_u1 T (4 + T 0) v21) 0 (T 0 + 1))) := by
                                  unfold jpM
                                  rw [if_neg (fun z => by omega)]
                                rw [hend] at hB
                                exact k1 (b21 + 1) (jm_u1 (jm_u1 T (4 + T 0) v21) 0 (T 0 + 1)) μ44 hB.symm ht2 (by omega) Rμ44 Wμ44 hd2 hf2
                        · first
                          | (exfalso; omega)
                          | skip
                            show jV _ _ jm_p_X6_readMats _ 51 [some (.inr (.inr 5)), some (.inr (.inr 24)), some (.inl x2_22)] [.inl (-1)] μ44
                            refine jv_bipush rfl rfl ?_
                            refine jv_icmp_eqF rfl rfl (by decide) ?_
                            refine jv_iconst rfl rfl ?_
                            refine jv_ireturn rfl (Or.inr ⟨rfl, by decide⟩) ?_
                            have ht2 : jtv (jm_u1 (jm_u1 T (4 + T 0) v21) 0 (T 0 + 1)) := jtv_mat ht (by omega) lμ21
                            have hd2 : jdr μ44 (jm_u1 (jm_u1 T (4 + T 0) v21) 0 (T 0 + 1)) := jdr_mat ht (by omega) hd (fun z p q r => Gμ44 z p q r) (by rw [V_1_μ44]; exact ex2_22) V_0_μ44
                            have hf2 : jfr μ0 μ44 := fun z q => (Gμ44 z q.1 (by omega) (by omega)).trans (hf z q)
                            have e02 : (jm_u1 (jm_u1 T (4 + T 0) v21) 0 (T 0 + 1)) 0 = T 0 + 1 := if_pos rfl
                            unfold jpM at hB
                            rw [if_pos ha, if_neg (by omega), jbd_ok eμ21, jbd_ok eμ28] at hB
                            have hend : jpM g N (k + 1) (b21 + 1) (jm_u1 (jm_u1 T (4 + T 0) v21) 0 (T 0 + 1)) = (0, (b21 + 1), (jm_u1 (jm_u1 T (4 + T 0) v21) 0 (T 0 + 1))) := by
                              unfold jpM
                              rw [if_neg (fun z => by omega)]
                            rw [hend] at hB
                            exact k1 (b21 + 1) (jm_u1 (jm_u1 T (4 + T 0) v21) 0 (T 0 + 1)) μ44 hB.symm ht2 (by omega) Rμ44 Wμ44 hd2 hf2
                    · first
                      | (exfalso; omega)
                      | skip
                        show jV _ _ jm_p_X6_readMats _ 29 [some (.inr (.inr 5)), some (.inr (.inr 24)), some (.inl x2_22)] [.inl 0] μ28
                        have Gμ28 : ∀ z, z ≠ 5 → z ≠ 24 → z ≠ (27 + 2 * T 0) → μ28 z = μ z := fun z p0 p1 p2 => (nμ28.1 z p0).trans (Gμ21 z p0 p1 p2)
                        refine jv_if_neF rfl rfl (by decide) ?_
                        refine jv_iconst rfl rfl ?_
                        refine jv_ireturn rfl (Or.inr ⟨rfl, by decide⟩) ?_
                        unfold jpM at hB
                        rw [if_pos ha, if_neg (by omega), jbd_ok eμ21, jbd_no eμ28 (by decide)] at hB
                        exact k0 1 b21 μ28 hB.symm (by omega) ⟨fun z q => (Gμ28 z q.1 (by omega) (by omega)).trans (hf z q), by exact nμ28.2.1, by exact nμ28.2.2.1, by exact nμ28.2.2.2⟩
                · first
                  | (exfalso; omega)
                  | skip
                    show jV _ _ jm_p_X6_readMats _ 22 [some (.inr (.inr 5)), some (.inr (.inr 24)), o2] [.inl (-1)] μ21
                    have Gμ21 : ∀ z, z ≠ 5 → z ≠ 24 → z ≠ (27 + 2 * T 0) → μ21 z = μ z := fun z p0 p1 p2 => (nμ21.1 z p0).trans (Gμ14 z p0 p1 p2)
                    refine jv_istore_nK (L2 := [some (.inr (.inr 5)), some (.inr (.inr 24)), some (.inl (-1))]) rfl rfl rfl ?_
                    refine jv_iload_n rfl rfl rfl ?_
                    refine jv_iconst rfl rfl ?_
                    refine jv_icmp_eqT rfl rfl (by decide) ?_
                    refine jv_iconst rfl rfl ?_
                    refine jv_ireturn rfl (Or.inr ⟨rfl, by decide⟩) ?_
                    unfold jpM at hB
                    rw [if_pos ha, if_neg (by omega), jbd_no eμ21 (by omega)] at hB
                    exact k0 w21 (a + 1) μ21 hB.symm (by omega) ⟨fun z q => (Gμ21 z q.1 (by omega) (by omega)).trans (hf z q), by exact nμ21.2.1, by exact nμ21.2.2.1, by exact nμ21.2.2.2⟩
            · first
              | (exfalso; omega)
              | skip
                show jV _ _ jm_p_X6_readMats _ 15 [some (.inr (.inr 5)), some (.inr (.inr 24)), o2] [.inl 0] μ14
                have Gμ14 : ∀ z, z ≠ 5 → z ≠ 24 → z ≠ (27 + 2 * T 0) → μ14 z = μ z := fun z p0 p1 p2 => (nμ14.1 z p0).trans (Gμ z p0 p1 p2)
                refine jv_if_neF rfl rfl (by decide) ?_
                refine jv_iconst rfl rfl ?_
                refine jv_ireturn rfl (Or.inr ⟨rfl, by decide⟩) ?_
                exfalso
                unfold jps at eμ14
                rw [if_pos ha] at eμ14
                exact absurd (congrArg Prod.fst eμ14) (show ¬ (0 : Int) = 1 by decide)
        · first
          | (exfalso; omega)
          | skip
            refine jv_aload_n rfl rfl rfl (by decide) ?_
            refine jv_geti rfl rfl rfl ⟨by decide, rfl⟩ (by decide) ?_
            rw [show μ 24 2 = (T 0) by rw [V_0_μ]; exact hd.1.2.2.1]
            refine jv_iconst rfl rfl ?_
            refine jv_icmp_ltT rfl rfl (by omega) ?_
            refine jv_aload_n rfl rfl rfl (by decide) ?_
            refine jv_bipush rfl rfl ?_
            refine jv_callV1 rfl rfl rfl rfl ⟨by decide, rfl⟩ (Nat.le_of_ble_eq_true rfl) (cl_takeB Rμ (by decide) (fun μ14_1 eμ14_1 oμ14_1 => ?_) (fun μ14_1 eμ14_1 nμ14_1 => ?_))
            · first
              | (exfalso; omega)
              | skip
                show jV _ _ jm_p_X6_readMats _ 15 [some (.inr (.inr 5)), some (.inr (.inr 24)), o2] [.inl 1] μ14_1
                have Rμ14_1 : jrd μ14_1 g N (a + 1) := oμ14_1.1
                have Wμ14_1 : μ14_1 5 3 = 0 := oμ14_1.2.2.trans Wμ
                have Gμ14_1 : ∀ z, z ≠ 5 → z ≠ 24 → z ≠ (27 + 2 * T 0) → μ14_1 z = μ z := fun z p0 p1 p2 => (oμ14_1.2.1 z p0).trans (Gμ z p0 p1 p2)
                have V_0_μ14_1 : μ14_1 24 = (μ 24) := by rw [oμ14_1.2.1 24 (by omega), V_0_μ]
                have V_1_μ14_1 : μ14_1 (27 + 2 * T 0) = (μ (27 + 2 * T 0)) := by rw [oμ14_1.2.1 (27 + 2 * T 0) (by omega), V_1_μ]
                refine jv_if_neT rfl rfl (by decide) ?_
                refine jv_aload_n rfl rfl rfl (by decide) ?_
                refine jv_iconst rfl rfl ?_
                refine jv_iconst rfl rfl ?_
                refine jv_callV2 rfl rfl rfl rfl ⟨by decide, rfl⟩ (Nat.le_of_ble_eq_true rfl) (cl_takeN Rμ14_1 (fun b21 v21 μ21_1 eμ21_1 lμ21_1 uμ21_1 oμ21_1 => ?_) (fun w21 μ21_1 eμ21_1 lμ21_1 nμ21_1 => ?_))
                · first
                  | (exfalso; omega)
                  | skip
                    show jV _ _ jm_p_X6_readMats _ 22 [some (.inr (.inr 5)), some (.inr (.inr 24)), o2] [.inl v21] μ21_1
                    have Rμ21_1 : jrd μ21_1 g N b21 := oμ21_1.1
                    have Wμ21_1 : μ21_1 5 3 = 0 := oμ21_1.2.2.trans Wμ14_1
                    have Gμ21_1 : ∀ z, z ≠ 5 → z ≠ 24 → z ≠ (27 + 2 * T 0) → μ21_1 z = μ z := fun z p0 p1 p2 => (oμ21_1.2.1 z p0).trans (Gμ14_1 z p0 p1 p2)
                    have V_0_μ21_1 : μ21_1 24 = (μ 24) := by rw [oμ21_1.2.1 24 (by omega), V_0_μ14_1]
                    have V_1_μ21_1 : μ21_1 (27 + 2 * T 0) = (μ (27 + 2 * T 0)) := by rw [oμ21_1.2.1 (27 + 2 * T 0) (by omega), V_1_μ14_1]
                    refine jv_istore_n (fun x => [some (.inr (.inr 5)), some (.inr (.inr 24)), some (.inl x)]) rfl rfl (fun _ => rfl) (fun x2_22_1 ex2_22_1 => ?_)
                    refine jv_iload_n rfl rfl rfl ?_
                    refine jv_iconst rfl rfl ?_
                    refine jv_icmp_eqF rfl rfl (by omega) ?_
                    refine jv_aload_n rfl rfl rfl (by decide) ?_
                    refine jv_bipush rfl rfl ?_
                    refine jv_callV1 rfl rfl rfl rfl ⟨by decide, rfl⟩ (Nat.le_of_ble_eq_true rfl) (cl_takeB Rμ21_1 (by decide) (fun μ28_1 eμ28_1 oμ28_1 => ?_) (fun μ28_1 eμ28_1 nμ28_1 => ?_))
                    · first
                      | (exfalso; omega)
                      | skip
                        show jV _ _ jm_p_X6_readMats _ 29 [some (.inr (.inr 5)), some (.inr (.inr 24)), some (.inl x2_22_1)] [.inl 1] μ28_1
                        have Rμ28_1 : jrd μ28_1 g N (b21 + 1) := oμ28_1.1
                        have Wμ28_1 : μ28_1 5 3 = 0 := oμ28_1.2.2.trans Wμ21_1
                        have Gμ28_1 : ∀ z, z ≠ 5 → z ≠ 24 → z ≠ (27 + 2 * T 0) → μ28_1 z = μ z := fun z p0 p1 p2 => (oμ28_1.2.1 z p0).trans (Gμ21_1 z p0 p1 p2)
                        have V_0_μ28_1 : μ28_1 24 = (μ 24) := by rw [oμ28_1.2.1 24 (by omega), V_0_μ21_1]
                        have V_1_μ28_1 : μ28_1 (27 + 2 * T 0) = (μ (27 + 2 * T 0)) := by rw [oμ28_1.2.1 (27 + 2 * T 0) (by omega), V_1_μ21_1]
                        refine jv_if_neT rfl rfl (by decide) ?_
                        refine jv_aload_n rfl rfl rfl (by decide) ?_
                        refine jv_getr (w := 25) rfl rfl rfl ⟨by decide, rfl⟩ rfl rfl ?_
                        refine jv_aload_n rfl rfl rfl (by decide) ?_
                        refine jv_geti rfl rfl rfl ⟨by decide, rfl⟩ (by decide) ?_
                        rw [show μ28_1 24 2 = (T 0) by rw [V_0_μ28_1]; exact hd.1.2.2.1]
                        refine jv_aaloadv (v := 27 + 2 * T 0) rfl rfl rfl ⟨by decide, by decide, by decide⟩ ⟨by omega, by omega⟩ (by rw [Gμ28_1 25 (by decide) (by decide) (by omega), hf 25 (by omega)]; exact hid (T 0) (by omega) (by omega)) ?_
                        refine jv_iload_n rfl rfl rfl ?_
                        refine jv_puti rfl rfl (jz_mat_of (z := 27 + 2 * T 0) (by omega)).1 ⟨by omega, rfl⟩ (Or.inl rfl) (fun μ38_1 eμ38_1 => ?_)
                        have Rμ38_1 : jrd μ38_1 g N (b21 + 1) := jrd_same Rμ28_1 (by rw [eμ38_1, jm_off1 (by omega)]) (by rw [eμ38_1, jm_off1 (by omega)])
                        have Wμ38_1 : μ38_1 5 3 = 0 := by rw [eμ38_1, jm_off1 (by omega)]; exact Wμ28_1
                        have V_1_μ38_1 : μ38_1 (27 + 2 * T 0) = (jm_u1 (μ (27 + 2 * T 0)) 0 x2_22_1) := by rw [eμ38_1, jm_uc_self, V_1_μ28_1]
                        have V_0_μ38_1 : μ38_1 24 = (μ 24) := by rw [eμ38_1, jm_off1 (by omega), V_0_μ28_1]
                        have Gμ38_1 : ∀ z, z ≠ 5 → z ≠ 24 → z ≠ (27 + 2 * T 0) → μ38_1 z = μ z := fun z p0 p1 p2 => (show μ38_1 z = μ28_1 z by rw [eμ38_1, jm_off1 (by omega)]).trans (Gμ28_1 z p0 p1 p2)
                        refine jv_aload_n rfl rfl rfl (by decide) ?_
                        refine jv_dupr rfl rfl ?_
                        refine jv_geti rfl rfl rfl ⟨by decide, rfl⟩ (by decide) ?_
                        rw [show μ38_1 24 2 = (T 0) by rw [V_0_μ38_1]; exact hd.1.2.2.1]
                        refine jv_iconst rfl rfl ?_
                        refine jv_iadd rfl rfl ⟨by omega, by omega⟩ ?_
                        refine jv_puti rfl rfl rfl ⟨by decide, rfl⟩ (Or.inl rfl) (fun μ44_1 eμ44_1 => ?_)
                        have Rμ44_1 : jrd μ44_1 g N (b21 + 1) := jrd_same Rμ38_1 (by rw [eμ44_1, jm_off1 (by omega)]) (by rw [eμ44_1, jm_off1 (by omega)])
                        have Wμ44_1 : μ44_1 5 3 = 0 := by rw [eμ44_1, jm_off1 (by omega)]; exact Wμ38_1
                        have V_0_μ44_1 : μ44_1 24 = (jm_u1 (μ 24) 2 ((T 0) + 1)) := by rw [eμ44_1, jm_uc_self, V_0_μ38_1]
                        have V_1_μ44_1 : μ44_1 (27 + 2 * T 0) = (jm_u1 (μ (27 + 2 * T 0)) 0 x2_22_1) := by rw [eμ44_1, jm_off1 (by omega), V_1_μ38_1]
                        have Gμ44_1 : ∀ z, z ≠ 5 → z ≠ 24 → z ≠ (27 + 2 * T 0) → μ44_1 z = μ z := fun z p0 p1 p2 => (show μ44_1 z = μ38_1 z by rw [eμ44_1, jm_off1 (by omega)]).trans (Gμ38_1 z p0 p1 p2)
                        refine jv_aload_n rfl rfl rfl (by decide) ?_
                        refine jv_geti rfl rfl rfl ⟨by decide, rfl⟩ (by decide) ?_
                        rw [show μ44_1 24 2 = (T 0 + 1) by rw [V_0_μ44_1]; exact rfl]
                        refine jv_iconst rfl rfl ?_
                        refine jv_icmp_gtF rfl rfl (by omega) ?_
                        refine jv_aload_n rfl rfl rfl (by decide) ?_
                        refine jv_callV0 rfl rfl rfl rfl ⟨by decide, rfl⟩ (Nat.le_of_ble_eq_true rfl) (cl_seen Rμ44_1 (fun q50 => ?_) (fun q50 => ?_))
                        · first
                          | (exfalso; omega)
                          | skip
                            show jV _ _ jm_p_X6_readMats _ 51 [some (.inr (.inr 5)), some (.inr (.inr 24)), some (.inl x2_22_1)] [.inl (g (b21 + 1))] μ44_1
                            refine jv_bipush rfl rfl ?_
                            refine jv_icmp_eq rfl rfl rfl (fun c52_1 => ?_) (fun c52_1 => ?_)
                            · first
                              | (exfalso; omega)
                              | skip
                                have ht2 : jtv (jm_u1 (jm_u1 T (4 + T 0) v21) 0 (T 0 + 1)) := jtv_mat ht (by omega) lμ21_1
                                have hd2 : jdr μ44_1 (jm_u1 (jm_u1 T (4 + T 0) v21) 0 (T 0 + 1)) := jdr_mat ht (by omega) hd (fun z p q r => Gμ44_1 z p q r) (by rw [V_1_μ44_1]; exact ex2_22_1) V_0_μ44_1
                                have hf2 : jfr μ0 μ44_1 := fun z q => (Gμ44_1 z q.1 (by omega) (by omega)).trans (hf z q)
                                have e02 : (jm_u1 (jm_u1 T (4 + T 0) v21) 0 (T 0 + 1)) 0 = T 0 + 1 := if_pos rfl
                                unfold jpM at hB
                                rw [if_pos ha, if_neg (by omega), jbd_ok eμ21_1, jbd_ok eμ28_1] at hB
                                exact ih (b21 + 1) (jm_u1 (jm_u1 T (4 + T 0) v21) 0 (T 0 + 1)) _ μ44_1 (by omega) ⟨by omega, by omega⟩ ht2 Rμ44_1 Wμ44_1 hd2 hf2 hB
                            · first
                              | (exfalso; omega)
                              | skip
                                refine jv_iconst rfl rfl ?_
                                refine jv_ireturn rfl (Or.inr ⟨rfl, by decide⟩) ?_
                                have ht2 : jtv (jm_u1 (jm_u1 T (4 + T 0) v21) 0 (T 0 + 1)) := jtv_mat ht (by omega) lμ21_1
                                have hd2 : jdr μ44_1 (jm_u1 (jm_u1 T (4 + T 0) v21) 0 (T 0 + 1)) := jdr_mat ht (by omega) hd (fun z p q r => Gμ44_1 z p q r) (by rw [V_1_μ44_1]; exact ex2_22_1) V_0_μ44_1
                                have hf2 : jfr μ0 μ44_1 := fun z q => (Gμ44_1 z q.1 (by omega) (by omega)).trans (hf z q)
                                have e02 : (jm_u1 (jm_u1 T (4 + T 0) v21) 0 (T 0 + 1)) 0 = T 0 + 1 := if_pos rfl
                                unfold jpM at hB
                                rw [if_pos ha, if_neg (by omega), jbd_ok eμ21_1, jbd_ok eμ28_1] at hB
                                have hend : jpM g N (k + 1) (b21 + 1) (jm_u1 (jm_u1 T (4 + T 0) v21) 0 (T 0 + 1)) = (0, (b21 + 1), (jm_u1 (jm_u1 T (4 + T 0) v21) 0 (T 0 + 1))) := by
                                  unfold jpM
                                  rw [if_neg (fun z => by omega)]
                                rw [hend] at hB
                                exact k1 (b21 + 1) (jm_u1 (jm_u1 T (4 + T 0) v21) 0 (T 0 + 1)) μ44_1 hB.symm ht2 (by omega) Rμ44_1 Wμ44_1 hd2 hf2
                        · first
                          | (exfalso; omega)
                          | skip
                            show jV _ _ jm_p_X6_readMats _ 51 [some (.inr (.inr 5)), some (.inr (.inr 24)), some (.inl x2_22_1)] [.inl (-1)] μ44_1
                            refine jv_bipush rfl rfl ?_
                            refine jv_icmp_eqF rfl rfl (by decide) ?_
                            refine jv_iconst rfl rfl ?_
                            refine jv_ireturn rfl (Or.inr ⟨rfl, by decide⟩) ?_
                            have ht2 : jtv (jm_u1 (jm_u1 T (4 + T 0) v21) 0 (T 0 + 1)) := jtv_mat ht (by omega) lμ21_1
                            have hd2 : jdr μ44_1 (jm_u1 (jm_u1 T (4 + T 0) v21) 0 (T 0 + 1)) := jdr_mat ht (by omega) hd (fun z p q r => Gμ44_1 z p q r) (by rw [V_1_μ44_1]; exact ex2_22_1) V_0_μ44_1
                            have hf2 : jfr μ0 μ44_1 := fun z q => (Gμ44_1 z q.1 (by omega) (by omega)).trans (hf z q)
                            have e02 : (jm_u1 (jm_u1 T (4 + T 0) v21) 0 (T 0 + 1)) 0 = T 0 + 1 := if_pos rfl
                            unfold jpM at hB
                            rw [if_pos ha, if_neg (by omega), jbd_ok eμ21_1, jbd_ok eμ28_1] at hB
                            have hend : jpM g N (k + 1) (b21 + 1) (jm_u1 (jm_u1 T (4 + T 0) v21) 0 (T 0 + 1)) = (0, (b21 + 1), (jm_u1 (jm_u1 T (4 + T 0) v21) 0 (T 0 + 1))) := by
                              unfold jpM
                              rw [if_neg (fun z => by omega)]
                            rw [hend] at hB
                            exact k1 (b21 + 1) (jm_u1 (jm_u1 T (4 + T 0) v21) 0 (T 0 + 1)) μ44_1 hB.symm ht2 (by omega) Rμ44_1 Wμ44_1 hd2 hf2
                    · first
                      | (exfalso; omega)
                      | skip
                        show jV _ _ jm_p_X6_readMats _ 29 [some (.inr (.inr 5)), some (.inr (.inr 24)), some (.inl x2_22_1)] [.inl 0] μ28_1
                        have Gμ28_1 : ∀ z, z ≠ 5 → z ≠ 24 → z ≠ (27 + 2 * T 0) → μ28_1 z = μ z := fun z p0 p1 p2 => (nμ28_1.1 z p0).trans (Gμ21_1 z p0 p1 p2)
                        refine jv_if_neF rfl rfl (by decide) ?_
                        refine jv_iconst rfl rfl ?_
                        refine jv_ireturn rfl (Or.inr ⟨rfl, by decide⟩) ?_
                        unfold jpM at hB
                        rw [if_pos ha, if_neg (by omega), jbd_ok eμ21_1, jbd_no eμ28_1 (by decide)] at hB
                        exact k0 1 b21 μ28_1 hB.symm (by omega) ⟨fun z q => (Gμ28_1 z q.1 (by omega) (by omega)).trans (hf z q), by exact nμ28_1.2.1, by exact nμ28_1.2.2.1, by exact nμ28_1.2.2.2⟩
                · first
                  | (exfalso; omega)
                  | skip
                    show jV _ _ jm_p_X6_readMats _ 22 [some (.inr (.inr 5)), some (.inr (.inr 24)), o2] [.inl (-1)] μ21_1
                    have Gμ21_1 : ∀ z, z ≠ 5 → z ≠ 24 → z ≠ (27 + 2 * T 0) → μ21_1 z = μ z := fun z p0 p1 p2 => (nμ21_1.1 z p0).trans (Gμ14_1 z p0 p1 p2)
                    refine jv_istore_nK (L2 := [some (.inr (.inr 5)), some (.inr (.inr 24)), some (.inl (-1))]) rfl rfl rfl ?_
                    refine jv_iload_n rfl rfl rfl ?_
                    refine jv_iconst rfl rfl ?_
                    refine jv_icmp_eqT rfl rfl (by decide) ?_
                    refine jv_iconst rfl rfl ?_
                    refine jv_ireturn rfl (Or.inr ⟨rfl, by decide⟩) ?_
                    unfold jpM at hB
                    rw [if_pos ha, if_neg (by omega), jbd_no eμ21_1 (by omega)] at hB
                    exact k0 w21 (a + 1) μ21_1 hB.symm (by omega) ⟨fun z q => (Gμ21_1 z q.1 (by omega) (by omega)).trans (hf z q), by exact nμ21_1.2.1, by exact nμ21_1.2.2.1, by exact nμ21_1.2.2.2⟩
            · first
              | (exfalso; omega)
              | skip
                show jV _ _ jm_p_X6_readMats _ 15 [some (.inr (.inr 5)), some (.inr (.inr 24)), o2] [.inl 0] μ14_1
                have Gμ14_1 : ∀ z, z ≠ 5 → z ≠ 24 → z ≠ (27 + 2 * T 0) → μ14_1 z = μ z := fun z p0 p1 p2 => (nμ14_1.1 z p0).trans (Gμ z p0 p1 p2)
                refine jv_if_neF rfl rfl (by decide) ?_
                refine jv_iconst rfl rfl ?_
                refine jv_ireturn rfl (Or.inr ⟨rfl, by decide⟩) ?_
                exfalso
                unfold jps at eμ14_1
                rw [if_pos ha] at eμ14_1
                exact absurd (congrArg Prod.fst eμ14_1) (show ¬ (0 : Int) = 1 by decide)
    · first
      | (exfalso; omega)
      | skip
        show jV _ _ jm_p_X6_readMats _ 2 [some (.inr (.inr 5)), some (.inr (.inr 24)), o2] [.inl (-1)] μ
        refine jv_bipush rfl rfl ?_
        refine jv_icmp_neT rfl rfl (by decide) ?_
        refine jv_aload_n rfl rfl rfl (by decide) ?_
        refine jv_bipush rfl rfl ?_
        refine jv_callV1 rfl rfl rfl rfl ⟨by decide, rfl⟩ (Nat.le_of_ble_eq_true rfl) (cl_takeB Rμ (by decide) (fun μ14_2 eμ14_2 oμ14_2 => ?_) (fun μ14_2 eμ14_2 nμ14_2 => ?_))
        · first
          | (exfalso; omega)
          | skip
            show jV _ _ jm_p_X6_readMats _ 15 [some (.inr (.inr 5)), some (.inr (.inr 24)), o2] [.inl 1] μ14_2
            have Rμ14_2 : jrd μ14_2 g N (a + 1) := oμ14_2.1
            have Wμ14_2 : μ14_2 5 3 = 0 := oμ14_2.2.2.trans Wμ
            have Gμ14_2 : ∀ z, z ≠ 5 → z ≠ 24 → z ≠ (27 + 2 * T 0) → μ14_2 z = μ z := fun z p0 p1 p2 => (oμ14_2.2.1 z p0).trans (Gμ z p0 p1 p2)
            have V_0_μ14_2 : μ14_2 24 = (μ 24) := by rw [oμ14_2.2.1 24 (by omega), V_0_μ]
            have V_1_μ14_2 : μ14_2 (27 + 2 * T 0) = (μ (27 + 2 * T 0)) := by rw [oμ14_2.2.1 (27 + 2 * T 0) (by omega), V_1_μ]
            refine jv_if_neT rfl rfl (by decide) ?_
            refine jv_aload_n rfl rfl rfl (by decide) ?_
            refine jv_iconst rfl rfl ?_
            refine jv_iconst rfl rfl ?_
            refine jv_callV2 rfl rfl rfl rfl ⟨by decide, rfl⟩ (Nat.le_of_ble_eq_true rfl) (cl_takeN Rμ14_2 (fun b21 v21 μ21_2 eμ21_2 lμ21_2 uμ21_2 oμ21_2 => ?_) (fun w21 μ21_2 eμ21_2 lμ21_2 nμ21_2 => ?_))
            · first
              | (exfalso; omega)
              | skip
                show jV _ _ jm_p_X6_readMats _ 22 [some (.inr (.inr 5)), some (.inr (.inr 24)), o2] [.inl v21] μ21_2
                have Rμ21_2 : jrd μ21_2 g N b21 := oμ21_2.1
                have Wμ21_2 : μ21_2 5 3 = 0 := oμ21_2.2.2.trans Wμ14_2
                have Gμ21_2 : ∀ z, z ≠ 5 → z ≠ 24 → z ≠ (27 + 2 * T 0) → μ21_2 z = μ z := fun z p0 p1 p2 => (oμ21_2.2.1 z p0).trans (Gμ14_2 z p0 p1 p2)
                have V_0_μ21_2 : μ21_2 24 = (μ 24) := by rw [oμ21_2.2.1 24 (by omega), V_0_μ14_2]
                have V_1_μ21_2 : μ21_2 (27 + 2 * T 0) = (μ (27 + 2 * T 0)) := by rw [oμ21_2.2.1 (27 + 2 * T 0) (by omega), V_1_μ14_2]
                refine jv_istore_n (fun x => [some (.inr (.inr 5)), some (.inr (.inr 24)), some (.inl x)]) rfl rfl (fun _ => rfl) (fun x2_22_2 ex2_22_2 => ?_)
                refine jv_iload_n rfl rfl rfl ?_
                refine jv_iconst rfl rfl ?_
                refine jv_icmp_eqF rfl rfl (by omega) ?_
                refine jv_aload_n rfl rfl rfl (by decide) ?_
                refine jv_bipush rfl rfl ?_
                refine jv_callV1 rfl rfl rfl rfl ⟨by decide, rfl⟩ (Nat.le_of_ble_eq_true rfl) (cl_takeB Rμ21_2 (by decide) (fun μ28_2 eμ28_2 oμ28_2 => ?_) (fun μ28_2 eμ28_2 nμ28_2 => ?_))
                · first
                  | (exfalso; omega)
                  | skip
                    show jV _ _ jm_p_X6_readMats _ 29 [some (.inr (.inr 5)), some (.inr (.inr 24)), some (.inl x2_22_2)] [.inl 1] μ28_2
                    have Rμ28_2 : jrd μ28_2 g N (b21 + 1) := oμ28_2.1
                    have Wμ28_2 : μ28_2 5 3 = 0 := oμ28_2.2.2.trans Wμ21_2
                    have Gμ28_2 : ∀ z, z ≠ 5 → z ≠ 24 → z ≠ (27 + 2 * T 0) → μ28_2 z = μ z := fun z p0 p1 p2 => (oμ28_2.2.1 z p0).trans (Gμ21_2 z p0 p1 p2)
                    have V_0_μ28_2 : μ28_2 24 = (μ 24) := by rw [oμ28_2.2.1 24 (by omega), V_0_μ21_2]
                    have V_1_μ28_2 : μ28_2 (27 + 2 * T 0) = (μ (27 + 2 * T 0)) := by rw [oμ28_2.2.1 (27 + 2 * T 0) (by omega), V_1_μ21_2]
                    refine jv_if_neT rfl rfl (by decide) ?_
                    refine jv_aload_n rfl rfl rfl (by decide) ?_
                    refine jv_getr (w := 25) rfl rfl rfl ⟨by decide, rfl⟩ rfl rfl ?_
                    refine jv_aload_n rfl rfl rfl (by decide) ?_
                    refine jv_geti rfl rfl rfl ⟨by decide, rfl⟩ (by decide) ?_
                    rw [show μ28_2 24 2 = (T 0) by rw [V_0_μ28_2]; exact hd.1.2.2.1]
                    refine jv_aaloadv (v := 27 + 2 * T 0) rfl rfl rfl ⟨by decide, by decide, by decide⟩ ⟨by omega, by omega⟩ (by rw [Gμ28_2 25 (by decide) (by decide) (by omega), hf 25 (by omega)]; exact hid (T 0) (by omega) (by omega)) ?_
                    refine jv_iload_n rfl rfl rfl ?_
                    refine jv_puti rfl rfl (jz_mat_of (z := 27 + 2 * T 0) (by omega)).1 ⟨by omega, rfl⟩ (Or.inl rfl) (fun μ38_2 eμ38_2 => ?_)
                    have Rμ38_2 : jrd μ38_2 g N (b21 + 1) := jrd_same Rμ28_2 (by rw [eμ38_2, jm_off1 (by omega)]) (by rw [eμ38_2, jm_off1 (by omega)])
                    have Wμ38_2 : μ38_2 5 3 = 0 := by rw [eμ38_2, jm_off1 (by omega)]; exact Wμ28_2
                    have V_1_μ38_2 : μ38_2 (27 + 2 * T 0) = (jm_u1 (μ (27 + 2 * T 0)) 0 x2_22_2) := by rw [eμ38_2, jm_uc_self, V_1_μ28_2]
                    have V_0_μ38_2 : μ38_2 24 = (μ 24) := by rw [eμ38_2, jm_off1 (by omega), V_0_μ28_2]
                    have Gμ38_2 : ∀ z, z ≠ 5 → z ≠ 24 → z ≠ (27 + 2 * T 0) → μ38_2 z = μ z := fun z p0 p1 p2 => (show μ38_2 z = μ28_2 z by rw [eμ38_2, jm_off1 (by omega)]).trans (Gμ28_2 z p0 p1 p2)
                    refine jv_aload_n rfl rfl rfl (by decide) ?_
                    refine jv_dupr rfl rfl ?_
                    refine jv_geti rfl rfl rfl ⟨by decide, rfl⟩ (by decide) ?_
                    rw [show μ38_2 24 2 = (T 0) by rw [V_0_μ38_2]; exact hd.1.2.2.1]
                    refine jv_iconst rfl rfl ?_
                    refine jv_iadd rfl rfl ⟨by omega, by omega⟩ ?_
                    refine jv_puti rfl rfl rfl ⟨by decide, rfl⟩ (Or.inl rfl) (fun μ44_2 eμ44_2 => ?_)
                    have Rμ44_2 : jrd μ44_2 g N (b21 + 1) := jrd_same Rμ38_2 (by rw [eμ44_2, jm_off1 (by omega)]) (by rw [eμ44_2, jm_off1 (by omega)])
                    have Wμ44_2 : μ44_2 5 3 = 0 := by rw [eμ44_2, jm_off1 (by omega)]; exact Wμ38_2
                    have V_0_μ44_2 : μ44_2 24 = (jm_u1 (μ 24) 2 ((T 0) + 1)) := by rw [eμ44_2, jm_uc_self, V_0_μ38_2]
                    have V_1_μ44_2 : μ44_2 (27 + 2 * T 0) = (jm_u1 (μ (27 + 2 * T 0)) 0 x2_22_2) := by rw [eμ44_2, jm_off1 (by omega), V_1_μ38_2]
                    have Gμ44_2 : ∀ z, z ≠ 5 → z ≠ 24 → z ≠ (27 + 2 * T 0) → μ44_2 z = μ z := fun z p0 p1 p2 => (show μ44_2 z = μ38_2 z by rw [eμ44_2, jm_off1 (by omega)]).trans (Gμ38_2 z p0 p1 p2)
                    refine jv_aload_n rfl rfl rfl (by decide) ?_
                    refine jv_geti rfl rfl rfl ⟨by decide, rfl⟩ (by decide) ?_
                    rw [show μ44_2 24 2 = (T 0 + 1) by rw [V_0_μ44_2]; exact rfl]
                    refine jv_iconst rfl rfl ?_
                    refine jv_icmp_gtF rfl rfl (by omega) ?_
                    refine jv_aload_n rfl rfl rfl (by decide) ?_
                    refine jv_callV0 rfl rfl rfl rfl ⟨by decide, rfl⟩ (Nat.le_of_ble_eq_true rfl) (cl_seen Rμ44_2 (fun q50 => ?_) (fun q50 => ?_))
                    · first
                      | (exfalso; omega)
                      | skip
                        show jV _ _ jm_p_X6_readMats _ 51 [some (.inr (.inr 5)), some (.inr (.inr 24)), some (.inl x2_22_2)] [.inl (g (b21 + 1))] μ44_2
                        refine jv_bipush rfl rfl ?_
                        refine jv_icmp_eq rfl rfl rfl (fun c52_2 => ?_) (fun c52_2 => ?_)
                        · first
                          | (exfalso; omega)
                          | skip
                            have ht2 : jtv (jm_u1 (jm_u1 T (4 + T 0) v21) 0 (T 0 + 1)) := jtv_mat ht (by omega) lμ21_2
                            have hd2 : jdr μ44_2 (jm_u1 (jm_u1 T (4 + T 0) v21) 0 (T 0 + 1)) := jdr_mat ht (by omega) hd (fun z p q r => Gμ44_2 z p q r) (by rw [V_1_μ44_2]; exact ex2_22_2) V_0_μ44_2
                            have hf2 : jfr μ0 μ44_2 := fun z q => (Gμ44_2 z q.1 (by omega) (by omega)).trans (hf z q)
                            have e02 : (jm_u1 (jm_u1 T (4 + T 0) v21) 0 (T 0 + 1)) 0 = T 0 + 1 := if_pos rfl
                            unfold jpM at hB
                            rw [if_pos ha, if_neg (by omega), jbd_ok eμ21_2, jbd_ok eμ28_2] at hB
                            exact ih (b21 + 1) (jm_u1 (jm_u1 T (4 + T 0) v21) 0 (T 0 + 1)) _ μ44_2 (by omega) ⟨by omega, by omega⟩ ht2 Rμ44_2 Wμ44_2 hd2 hf2 hB
                        · first
                          | (exfalso; omega)
                          | skip
                            refine jv_iconst rfl rfl ?_
                            refine jv_ireturn rfl (Or.inr ⟨rfl, by decide⟩) ?_
                            have ht2 : jtv (jm_u1 (jm_u1 T (4 + T 0) v21) 0 (T 0 + 1)) := jtv_mat ht (by omega) lμ21_2
                            have hd2 : jdr μ44_2 (jm_u1 (jm_u1 T (4 + T 0) v21) 0 (T 0 + 1)) := jdr_mat ht (by omega) hd (fun z p q r => Gμ44_2 z p q r) (by rw [V_1_μ44_2]; exact ex2_22_2) V_0_μ44_2
                            have hf2 : jfr μ0 μ44_2 := fun z q => (Gμ44_2 z q.1 (by omega) (by omega)).trans (hf z q)
                            have e02 : (jm_u1 (jm_u1 T (4 + T 0) v21) 0 (T 0 + 1)) 0 = T 0 + 1 := if_pos rfl
                            unfold jpM at hB
                            rw [if_pos ha, if_neg (by omega), jbd_ok eμ21_2, jbd_ok eμ28_2] at hB
                            have hend : jpM g N (k + 1) (b21 + 1) (jm_u1 (jm_u1 T (4 + T 0) v21) 0 (T 0 + 1)) = (0, (b21 + 1), (jm_u1 (jm_u1 T (4 + T 0) v21) 0 (T 0 + 1))) := by
                              unfold jpM
                              rw [if_neg (fun z => by omega)]
                            rw [hend] at hB
                            exact k1 (b21 + 1) (jm_u1 (jm_u1 T (4 + T 0) v21) 0 (T 0 + 1)) μ44_2 hB.symm ht2 (by omega) Rμ44_2 Wμ44_2 hd2 hf2
                    · first
                      | (exfalso; omega)
                      | skip
                        show jV _ _ jm_p_X6_readMats _ 51 [some (.inr (.inr 5)), some (.inr (.inr 24)), some (.inl x2_22_2)] [.inl (-1)] μ44_2
                        refine jv_bipush rfl rfl ?_
                        refine jv_icmp_eqF rfl rfl (by decide) ?_
                        refine jv_iconst rfl rfl ?_
                        refine jv_ireturn rfl (Or.inr ⟨rfl, by decide⟩) ?_
                        have ht2 : jtv (jm_u1 (jm_u1 T (4 + T 0) v21) 0 (T 0 + 1)) := jtv_mat ht (by omega) lμ21_2
                        have hd2 : jdr μ44_2 (jm_u1 (jm_u1 T (4 + T 0) v21) 0 (T 0 + 1)) := jdr_mat ht (by omega) hd (fun z p q r => Gμ44_2 z p q r) (by rw [V_1_μ44_2]; exact ex2_22_2) V_0_μ44_2
                        have hf2 : jfr μ0 μ44_2 := fun z q => (Gμ44_2 z q.1 (by omega) (by omega)).trans (hf z q)
                        have e02 : (jm_u1 (jm_u1 T (4 + T 0) v21) 0 (T 0 + 1)) 0 = T 0 + 1 := if_pos rfl
                        unfold jpM at hB
                        rw [if_pos ha, if_neg (by omega), jbd_ok eμ21_2, jbd_ok eμ28_2] at hB
                        have hend : jpM g N (k + 1) (b21 + 1) (jm_u1 (jm_u1 T (4 + T 0) v21) 0 (T 0 + 1)) = (0, (b21 + 1), (jm_u1 (jm_u1 T (4 + T 0) v21) 0 (T 0 + 1))) := by
                          unfold jpM
                          rw [if_neg (fun z => by omega)]
                        rw [hend] at hB
                        exact k1 (b21 + 1) (jm_u1 (jm_u1 T (4 + T 0) v21) 0 (T 0 + 1)) μ44_2 hB.symm ht2 (by omega) Rμ44_2 Wμ44_2 hd2 hf2
                · first
                  | (exfalso; omega)
                  | skip
                    show jV _ _ jm_p_X6_readMats _ 29 [some (.inr (.inr 5)), some (.inr (.inr 24)), some (.inl x2_22_2)] [.inl 0] μ28_2
                    have Gμ28_2 : ∀ z, z ≠ 5 → z ≠ 24 → z ≠ (27 + 2 * T 0) → μ28_2 z = μ z := fun z p0 p1 p2 => (nμ28_2.1 z p0).trans (Gμ21_2 z p0 p1 p2)
                    refine jv_if_neF rfl rfl (by decide) ?_
                    refine jv_iconst rfl rfl ?_
                    refine jv_ireturn rfl (Or.inr ⟨rfl, by decide⟩) ?_
                    unfold jpM at hB
                    rw [if_pos ha, if_neg (by omega), jbd_ok eμ21_2, jbd_no eμ28_2 (by decide)] at hB
                    exact k0 1 b21 μ28_2 hB.symm (by omega) ⟨fun z q => (Gμ28_2 z q.1 (by omega) (by omega)).trans (hf z q), by exact nμ28_2.2.1, by exact nμ28_2.2.2.1, by exact nμ28_2.2.2.2⟩
            · first
              | (exfalso; omega)
              | skip
                show jV _ _ jm_p_X6_readMats _ 22 [some (.inr (.inr 5)), some (.inr (.inr 24)), o2] [.inl (-1)] μ21_2
                have Gμ21_2 : ∀ z, z ≠ 5 → z ≠ 24 → z ≠ (27 + 2 * T 0) → μ21_2 z = μ z := fun z p0 p1 p2 => (nμ21_2.1 z p0).trans (Gμ14_2 z p0 p1 p2)
                refine jv_istore_nK (L2 := [some (.inr (.inr 5)), some (.inr (.inr 24)), some (.inl (-1))]) rfl rfl rfl ?_
                refine jv_iload_n rfl rfl rfl ?_
                refine jv_iconst rfl rfl ?_
                refine jv_icmp_eqT rfl rfl (by decide) ?_
                refine jv_iconst rfl rfl ?_
                refine jv_ireturn rfl (Or.inr ⟨rfl, by decide⟩) ?_
                unfold jpM at hB
                rw [if_pos ha, if_neg (by omega), jbd_no eμ21_2 (by omega)] at hB
                exact k0 w21 (a + 1) μ21_2 hB.symm (by omega) ⟨fun z q => (Gμ21_2 z q.1 (by omega) (by omega)).trans (hf z q), by exact nμ21_2.2.1, by exact nμ21_2.2.2.1, by exact nμ21_2.2.2.2⟩
        · first
          | (exfalso; omega)
          | skip
            show jV _ _ jm_p_X6_readMats _ 15 [some (.inr (.inr 5)), some (.inr (.inr 24)), o2] [.inl 0] μ14_2
            have Gμ14_2 : ∀ z, z ≠ 5 → z ≠ 24 → z ≠ (27 + 2 * T 0) → μ14_2 z = μ z := fun z p0 p1 p2 => (nμ14_2.1 z p0).trans (Gμ z p0 p1 p2)
            refine jv_if_neF rfl rfl (by decide) ?_
            refine jv_iconst rfl rfl ?_
            refine jv_ireturn rfl (Or.inr ⟨rfl, by decide⟩) ?_
            exfalso
            unfold jps at eμ14_2
            rw [if_pos ha] at eμ14_2
            exact absurd (congrArg Prod.fst eμ14_2) (show ¬ (0 : Int) = 1 by decide)
set_option maxRecDepth 10000 in
theorem cl_readM {X : jm_X} {d : Nat} {Q : jv_P} {μ : jm_M} {g : Int → Int} {N a : Int} {T : Int → Int} {B : jR} (hid : ∀ m, 0 ≤ m → m < 4 → μ 25 m = 27 + 2 * m) (k1 : ∀ a T μ2, B = (0, a, T) → jtv T → 1 ≤ T 0 → jrd μ2 g N a → μ2 5 3 = 0 → jdr μ2 T → jfr μ μ2 → Q [.inl 1] μ2) (k0 : ∀ w a μ2, B = (w, a, jZ) → w ≠ 0 → jbad μ μ2 N a w → Q [.inl 0] μ2) (h0 : T 0 = 0) (ht : jtv T) (Rμ : jrd μ g N a) (Wμ : μ 5 3 = 0) (hd : jdr μ T) (hB : (if a < N ∧ g a = 109 then jpM g N 5 a T else (1, a, jZ)) = B) : cV X (d + 4) 63 [.inr (.inr 5), .inr (.inr 24)] μ Q := by
  refine jv_enter (d := d + 3) jm_p_X6_readMats [some (.inr (.inr 5)), some (.inr (.inr 24)), none] rfl rfl rfl (Nat.le_of_ble_eq_true rfl) rfl rfl ?_
  by_cases ha : a < N ∧ g a = 109
  · rw [if_pos ha] at hB
    exact cl_readM_l hid k1 k0 4 a T none μ (by omega) ha ht Rμ Wμ hd (fun _ _ => rfl) hB
  · rw [if_neg ha] at hB
    have Gμ : ∀ z, z ≠ 5 → z ≠ 24 → μ z = μ z := fun _ _ _ => rfl
    have V_0_μ : μ 24 = μ 24 := rfl
    refine jv_aload_n rfl rfl rfl (by decide) ?_
    refine jv_callV0 rfl rfl rfl rfl ⟨by decide, rfl⟩ (Nat.le_of_ble_eq_true rfl) (cl_seen Rμ (fun q1 => ?_) (fun q1 => ?_))
    · first
      | (exfalso; omega)
      | skip
        show jV _ _ jm_p_X6_readMats _ 2 [some (.inr (.inr 5)), some (.inr (.inr 24)), none] [.inl (g a)] μ
        refine jv_bipush rfl rfl ?_
        refine jv_icmp_ne rfl rfl rfl (fun c3 => ?_) (fun c3 => ?_)
        · first
          | (exfalso; omega)
          | skip
            refine jv_aload_n rfl rfl rfl (by decide) ?_
            refine jv_bipush rfl rfl ?_
            refine jv_callV1 rfl rfl rfl rfl ⟨by decide, rfl⟩ (Nat.le_of_ble_eq_true rfl) (cl_takeB Rμ (by decide) (fun μ14 eμ14 oμ14 => ?_) (fun μ14 eμ14 nμ14 => ?_))
            · first
              | (exfalso; omega)
              | skip
                show jV _ _ jm_p_X6_readMats _ 15 [some (.inr (.inr 5)), some (.inr (.inr 24)), none] [.inl 1] μ14
                have Rμ14 : jrd μ14 g N (a + 1) := oμ14.1
                have Wμ14 : μ14 5 3 = 0 := oμ14.2.2.trans Wμ
                have Gμ14 : ∀ z, z ≠ 5 → z ≠ 24 → μ14 z = μ z := fun z p0 p1 => (oμ14.2.1 z p0).trans (Gμ z p0 p1)
                have V_0_μ14 : μ14 24 = (μ 24) := by rw [oμ14.2.1 24 (by omega), V_0_μ]
                refine jv_if_neT rfl rfl (by decide) ?_
                exfalso
                unfold jps at eμ14
                rw [if_neg ha] at eμ14
                exact absurd (congrArg Prod.fst eμ14) (show ¬ (1 : Int) = 0 by decide)
            · first
              | (exfalso; omega)
              | skip
                show jV _ _ jm_p_X6_readMats _ 15 [some (.inr (.inr 5)), some (.inr (.inr 24)), none] [.inl 0] μ14
                have Gμ14 : ∀ z, z ≠ 5 → z ≠ 24 → μ14 z = μ z := fun z p0 p1 => (nμ14.1 z p0).trans (Gμ z p0 p1)
                refine jv_if_neF rfl rfl (by decide) ?_
                refine jv_iconst rfl rfl ?_
                refine jv_ireturn rfl (Or.inr ⟨rfl, by decide⟩) ?_
                exact k0 1 a μ14 hB.symm (by decide) ⟨fun z q => Gμ14 z q.1 (by omega), by exact nμ14.2.1, by exact nμ14.2.2.1, by exact nμ14.2.2.2⟩
        · first
          | (exfalso; omega)
          | skip
            refine jv_aload_n rfl rfl rfl (by decide) ?_
            refine jv_geti rfl rfl rfl ⟨by decide, rfl⟩ (by decide) ?_
            refine jv_iconst rfl rfl ?_
            refine jv_icmp_lt rfl rfl rfl (fun c7 => ?_) (fun c7 => ?_)
            · first
              | (exfalso; omega)
              | skip
                refine jv_aload_n rfl rfl rfl (by decide) ?_
                refine jv_bipush rfl rfl ?_
                refine jv_callV1 rfl rfl rfl rfl ⟨by decide, rfl⟩ (Nat.le_of_ble_eq_true rfl) (cl_takeB Rμ (by decide) (fun μ14_1 eμ14_1 oμ14_1 => ?_) (fun μ14_1 eμ14_1 nμ14_1 => ?_))
                · first
                  | (exfalso; omega)
                  | skip
                    show jV _ _ jm_p_X6_readMats _ 15 [some (.inr (.inr 5)), some (.inr (.inr 24)), none] [.inl 1] μ14_1
                    have Rμ14_1 : jrd μ14_1 g N (a + 1) := oμ14_1.1
                    have Wμ14_1 : μ14_1 5 3 = 0 := oμ14_1.2.2.trans Wμ
                    have Gμ14_1 : ∀ z, z ≠ 5 → z ≠ 24 → μ14_1 z = μ z := fun z p0 p1 => (oμ14_1.2.1 z p0).trans (Gμ z p0 p1)
                    have V_0_μ14_1 : μ14_1 24 = (μ 24) := by rw [oμ14_1.2.1 24 (by omega), V_0_μ]
                    refine jv_if_neT rfl rfl (by decide) ?_
                    exfalso
                    unfold jps at eμ14_1
                    rw [if_neg ha] at eμ14_1
                    exact absurd (congrArg Prod.fst eμ14_1) (show ¬ (1 : Int) = 0 by decide)
                · first
                  | (exfalso; omega)
                  | skip
                    show jV _ _ jm_p_X6_readMats _ 15 [some (.inr (.inr 5)), some (.inr (.inr 24)), none] [.inl 0] μ14_1
                    have Gμ14_1 : ∀ z, z ≠ 5 → z ≠ 24 → μ14_1 z = μ z := fun z p0 p1 => (nμ14_1.1 z p0).trans (Gμ z p0 p1)
                    refine jv_if_neF rfl rfl (by decide) ?_
                    refine jv_iconst rfl rfl ?_
                    refine jv_ireturn rfl (Or.inr ⟨rfl, by decide⟩) ?_
                    exact k0 1 a μ14_1 hB.symm (by decide) ⟨fun z q => Gμ14_1 z q.1 (by omega), by exact nμ14_1.2.1, by exact nμ14_1.2.2.1, by exact nμ14_1.2.2.2⟩
            · first
              | (exfalso; omega)
              | skip
                exfalso; omega
    · first
      | (exfalso; omega)
      | skip
        show jV _ _ jm_p_X6_readMats _ 2 [some (.inr (.inr 5)), some (.inr (.inr 24)), none] [.inl (-1)] μ
        refine jv_bipush rfl rfl ?_
        refine jv_icmp_neT rfl rfl (by decide) ?_
        refine jv_aload_n rfl rfl rfl (by decide) ?_
        refine jv_bipush rfl rfl ?_
        refine jv_callV1 rfl rfl rfl rfl ⟨by decide, rfl⟩ (Nat.le_of_ble_eq_true rfl) (cl_takeB Rμ (by decide) (fun μ14_2 eμ14_2 oμ14_2 => ?_) (fun μ14_2 eμ14_2 nμ14_2 => ?_))
        · first
          | (exfalso; omega)
          | skip
            show jV _ _ jm_p_X6_readMats _ 15 [some (.inr (.inr 5)), some (.inr (.inr 24)), none] [.inl 1] μ14_2
            have Rμ14_2 : jrd μ14_2 g N (a + 1) := oμ14_2.1
            have Wμ14_2 : μ14_2 5 3 = 0 := oμ14_2.2.2.trans Wμ
            have Gμ14_2 : ∀ z, z ≠ 5 → z ≠ 24 → μ14_2 z = μ z := fun z p0 p1 => (oμ14_2.2.1 z p0).trans (Gμ z p0 p1)
            have V_0_μ14_2 : μ14_2 24 = (μ 24) := by rw [oμ14_2.2.1 24 (by omega), V_0_μ]
            refine jv_if_neT rfl rfl (by decide) ?_
            exfalso
            unfold jps at eμ14_2
            rw [if_neg ha] at eμ14_2
            exact absurd (congrArg Prod.fst eμ14_2) (show ¬ (1 : Int) = 0 by decide)
        · first
          | (exfalso; omega)
          | skip
            show jV _ _ jm_p_X6_readMats _ 15 [some (.inr (.inr 5)), some (.inr (.inr 24)), none] [.inl 0] μ14_2
            have Gμ14_2 : ∀ z, z ≠ 5 → z ≠ 24 → μ14_2 z = μ z := fun z p0 p1 => (nμ14_2.1 z p0).trans (Gμ z p0 p1)
            refine jv_if_neF rfl rfl (by decide) ?_
            refine jv_iconst rfl rfl ?_
            refine jv_ireturn rfl (Or.inr ⟨rfl, by decide⟩) ?_
            exact k0 1 a μ14_2 hB.symm (by decide) ⟨fun z q => Gμ14_2 z q.1 (by omega), by exact nμ14_2.2.1, by exact nμ14_2.2.2.1, by exact nμ14_2.2.2.2⟩
set_option maxRecDepth 10000 in
theorem cl_sortOf {X : jm_X} {d : Nat} {Q : jv_P} {μ : jm_M} {c : Int} (k1 : 0 < jkl c → Q [.inl (jkl c)] μ) (k0 : ¬ 0 < jkl c → Q [.inl (-1)] μ) : cV X (d + 1) 66 [.inl c] μ Q := by
  refine jv_enter (d := d + 0) jm_p_X6_sortOf [some (.inl c)] rfl rfl rfl (Nat.le_of_ble_eq_true rfl) rfl rfl ?_
  refine jv_iload_n rfl rfl rfl ?_
  refine jv_lsw rfl (And.intro (fun s1 => ?_) (fun ns1_4 => (And.intro (fun s1 => ?_) (fun ns1_3 => (And.intro (fun s1 => ?_) (fun ns1_2 => (And.intro (fun s1 => ?_) (fun ns1_1 => (And.intro (fun s1 => ?_) (fun ns1 => (jm_sw_1 ?_)))))))))))
  · refine jv_iconst rfl rfl ?_
    refine jv_ireturn rfl (Or.inl rfl) ?_
    have e : jkl c = 5 := by unfold jkl; (repeat' split) <;> omega
    rw [e] at k1
    exact k1 (by decide)
  · refine jv_iconst rfl rfl ?_
    refine jv_ireturn rfl (Or.inl rfl) ?_
    have e : jkl c = 2 := by unfold jkl; (repeat' split) <;> omega
    rw [e] at k1
    exact k1 (by decide)
  · refine jv_iconst rfl rfl ?_
    refine jv_ireturn rfl (Or.inl rfl) ?_
    have e : jkl c = 4 := by unfold jkl; (repeat' split) <;> omega
    rw [e] at k1
    exact k1 (by decide)
  · refine jv_iconst rfl rfl ?_
    refine jv_ireturn rfl (Or.inl rfl) ?_
    have e : jkl c = 3 := by unfold jkl; (repeat' split) <;> omega
    rw [e] at k1
    exact k1 (by decide)
  · refine jv_iconst rfl rfl ?_
    refine jv_ireturn rfl (Or.inl rfl) ?_
    have e : jkl c = 1 := by unfold jkl; (repeat' split) <;> omega
    rw [e] at k1
    exact k1 (by decide)
  · show jV _ _ jm_p_X6_sortOf _ 12 [some (.inl c)] [] μ
    refine jv_iconst rfl rfl ?_
    refine jv_ireturn rfl (Or.inl rfl) ?_
    have e : jkl c = 0 := by unfold jkl; (repeat' split) <;> omega
    exact k0 (by omega)
set_option maxRecDepth 10000 in
set_option maxHeartbeats 1000000 in
theorem cl_readCm_l {X : jm_X} {d : Nat} {Q : jv_P} {g : Int → Int} {N : Int} {B : jR} {μ0 : jm_M} (hid : ∀ c, 0 ≤ c → c < 6 → μ0 26 c = 35 + c) (k1 : ∀ a T μ2, B = (0, a, T) → jtv T → 1 ≤ T 0 → jrd μ2 g N a → μ2 5 3 = 0 → jdr μ2 T → jfr μ0 μ2 → Q [.inl 1] μ2) (k0 : ∀ w a μ2, B = (w, a, jZ) → w ≠ 0 → jbad μ0 μ2 N a w → Q [.inl 0] μ2) : ∀ (k : Nat) (a : Int) (T : Int → Int) (o2 o3 : Option jm_V) (μ : jm_M), T 1 + k = 6 → jtv T → 1 ≤ T 0 → jrd μ g N a → μ 5 3 = 0 → jdr μ T → jfr μ0 μ → jpC g N (k + 1) a T = B → jV X (d + 3) jm_p_X6_readComers Q 0 [some (.inr (.inr 5)), some (.inr (.inr 24)), o2, o3] [] μ := by
  intro k
  induction k with
  | zero =>
    intro a T o2 o3 μ hk ht h1 Rμ Wμ hd hf hB
    have Gμ : ∀ z, z ≠ 5 → z ≠ 24 → z ≠ (35 + T 1) → μ z = μ z := fun _ _ _ _ => rfl
    have V_0_μ : μ 24 = μ 24 := rfl
    have V_1_μ : μ (35 + T 1) = μ (35 + T 1) := rfl
    have t0 := ht.1.1
    have t1 := ht.1.2.1
    have hkr0 := jkl_r (c := g a)
    have hra := Rμ.2.2.1
    refine jv_aload_n rfl rfl rfl (by decide) ?_
    refine jv_geti rfl rfl rfl ⟨by decide, rfl⟩ (by decide) ?_
    rw [Rμ.2.1]
    refine jv_aload_n rfl rfl rfl (by decide) ?_
    refine jv_geti rfl rfl rfl ⟨by decide, rfl⟩ (by decide) ?_
    rw [Rμ.1]
    refine jv_icmp_ge rfl rfl rfl (fun c4 => ?_) (fun c4 => ?_)
    · first
      | (exfalso; omega)
      | skip
        refine jv_iconst rfl rfl ?_
        refine jv_ireturn rfl (Or.inr ⟨rfl, by decide⟩) ?_
        unfold jpC at hB
        rw [if_neg (fun z => by omega), if_pos (by have := Rμ.2.2.1; omega)] at hB
        exact k1 a T μ hB.symm ht h1 Rμ Wμ hd hf
    · first
      | (exfalso; omega)
      | skip
        refine jv_aload_n rfl rfl rfl (by decide) ?_
        refine jv_callV0 rfl rfl rfl rfl ⟨by decide, rfl⟩ (Nat.le_of_ble_eq_true rfl) (cl_seen Rμ (fun q6 => ?_) (fun q6 => ?_))
        · first
          | (exfalso; omega)
          | skip
            show jV _ _ jm_p_X6_readComers _ 7 [some (.inr (.inr 5)), some (.inr (.inr 24)), o2, o3] [.inl (g a)] μ
            refine jv_callS1 rfl rfl rfl (Nat.le_of_ble_eq_true rfl) (cl_sortOf (fun s7 => ?_) (fun s7 => ?_))
            · first
              | (exfalso; omega)
              | skip
                show jV _ _ jm_p_X6_readComers _ 8 [some (.inr (.inr 5)), some (.inr (.inr 24)), o2, o3] [.inl (jkl (g a))] μ
                refine jv_istore_n (fun x => [some (.inr (.inr 5)), some (.inr (.inr 24)), some (.inl x), o3]) rfl rfl (fun _ => rfl) (fun x2_8 ex2_8 => ?_)
                refine jv_iload_n rfl rfl rfl ?_
                refine jv_iconst rfl rfl ?_
                refine jv_icmp_ne rfl rfl rfl (fun c11 => ?_) (fun c11 => ?_)
                · first
                  | (exfalso; omega)
                  | skip
                    refine jv_aload_n rfl rfl rfl (by decide) ?_
                    refine jv_geti rfl rfl rfl ⟨by decide, rfl⟩ (by decide) ?_
                    rw [show μ 24 3 = (T 1) by rw [V_0_μ]; exact hd.1.2.2.2]
                    refine jv_bipush rfl rfl ?_
                    refine jv_icmp_ltF rfl rfl (by omega) ?_
                    refine jv_aload_n rfl rfl rfl (by decide) ?_
                    refine jv_iconst rfl rfl ?_
                    refine jv_callV1 rfl rfl rfl rfl ⟨by decide, rfl⟩ (Nat.le_of_ble_eq_true rfl) (cl_refuse (fun μ22 eμ22 => ?_))
                    show jV _ _ jm_p_X6_readComers _ 23 [some (.inr (.inr 5)), some (.inr (.inr 24)), some (.inl x2_8), o3] [.inl 0] μ22
                    have nμ22 : jno μ μ22 N a 3 := ⟨fun z q => by rw [eμ22, jm_off1 q], by rw [eμ22]; exact Rμ.1, by rw [eμ22]; exact Rμ.2.1, by rw [eμ22]; rfl⟩
                    have Gμ22 : ∀ z, z ≠ 5 → z ≠ 24 → z ≠ (35 + T 1) → μ22 z = μ z := fun z p0 p1 p2 => (nμ22.1 z p0).trans (Gμ z p0 p1 p2)
                    refine jv_ireturn rfl (Or.inr ⟨rfl, by decide⟩) ?_
                    unfold jpC at hB
                    rw [if_pos ⟨by omega, by omega⟩, if_pos (by omega)] at hB
                    exact k0 3 a μ22 hB.symm (by decide) ⟨fun z q => (nμ22.1 z q.1).trans (hf z q), by exact nμ22.2.1, by exact nμ22.2.2.1, by exact nμ22.2.2.2⟩
                · first
                  | (exfalso; omega)
                  | skip
                    refine jv_aload_n rfl rfl rfl (by decide) ?_
                    refine jv_iconst rfl rfl ?_
                    refine jv_callV1 rfl rfl rfl rfl ⟨by decide, rfl⟩ (Nat.le_of_ble_eq_true rfl) (cl_refuse (fun μ14 eμ14 => ?_))
                    show jV _ _ jm_p_X6_readComers _ 15 [some (.inr (.inr 5)), some (.inr (.inr 24)), some (.inl x2_8), o3] [.inl 0] μ14
                    have nμ14 : jno μ μ14 N a 1 := ⟨fun z q => by rw [eμ14, jm_off1 q], by rw [eμ14]; exact Rμ.1, by rw [eμ14]; exact Rμ.2.1, by rw [eμ14]; rfl⟩
                    have Gμ14 : ∀ z, z ≠ 5 → z ≠ 24 → z ≠ (35 + T 1) → μ14 z = μ z := fun z p0 p1 p2 => (nμ14.1 z p0).trans (Gμ z p0 p1 p2)
                    refine jv_ireturn rfl (Or.inr ⟨rfl, by decide⟩) ?_
                    unfold jpC at hB
                    rw [if_neg (fun z => by omega), if_neg (by omega)] at hB
                    exact k0 1 a μ14 hB.symm (by decide) ⟨fun z q => (nμ14.1 z q.1).trans (hf z q), by exact nμ14.2.1, by exact nμ14.2.2.1, by exact nμ14.2.2.2⟩
            · first
              | (exfalso; omega)
              | skip
                show jV _ _ jm_p_X6_readComers _ 8 [some (.inr (.inr 5)), some (.inr (.inr 24)), o2, o3] [.inl (-1)] μ
                refine jv_istore_nK (L2 := [some (.inr (.inr 5)), some (.inr (.inr 24)), some (.inl (-1)), o3]) rfl rfl rfl ?_
                refine jv_iload_n rfl rfl rfl ?_
                refine jv_iconst rfl rfl ?_
                refine jv_icmp_neF rfl rfl (by decide) ?_
                refine jv_aload_n rfl rfl rfl (by decide) ?_
                refine jv_iconst rfl rfl ?_
                refine jv_callV1 rfl rfl rfl rfl ⟨by decide, rfl⟩ (Nat.le_of_ble_eq_true rfl) (cl_refuse (fun μ14_1 eμ14_1 => ?_))
                show jV _ _ jm_p_X6_readComers _ 15 [some (.inr (.inr 5)), some (.inr (.inr 24)), some (.inl (-1)), o3] [.inl 0] μ14_1
                have nμ14_1 : jno μ μ14_1 N a 1 := ⟨fun z q => by rw [eμ14_1, jm_off1 q], by rw [eμ14_1]; exact Rμ.1, by rw [eμ14_1]; exact Rμ.2.1, by rw [eμ14_1]; rfl⟩
                have Gμ14_1 : ∀ z, z ≠ 5 → z ≠ 24 → z ≠ (35 + T 1) → μ14_1 z = μ z := fun z p0 p1 p2 => (nμ14_1.1 z p0).trans (Gμ z p0 p1 p2)
                refine jv_ireturn rfl (Or.inr ⟨rfl, by decide⟩) ?_
                unfold jpC at hB
                rw [if_neg (fun z => by omega), if_neg (by omega)] at hB
                exact k0 1 a μ14_1 hB.symm (by decide) ⟨fun z q => (nμ14_1.1 z q.1).trans (hf z q), by exact nμ14_1.2.1, by exact nμ14_1.2.2.1, by exact nμ14_1.2.2.2⟩
        · first
          | (exfalso; omega)
          | skip
            show jV _ _ jm_p_X6_readComers _ 7 [some (.inr (.inr 5)), some (.inr (.inr 24)), o2, o3] [.inl (-1)] μ
            refine jv_callS1 rfl rfl rfl (Nat.le_of_ble_eq_true rfl) (cl_sortOf (fun s7 => ?_) (fun s7 => ?_))
            · first
              | (exfalso; omega)
              | skip
                show jV _ _ jm_p_X6_readComers _ 8 [some (.inr (.inr 5)), some (.inr (.inr 24)), o2, o3] [.inl (jkl (g a))] μ
                refine jv_istore_n (fun x => [some (.inr (.inr 5)), some (.inr (.inr 24)), some (.inl x), o3]) rfl rfl (fun _ => rfl) (fun x2_8_1 ex2_8_1 => ?_)
                refine jv_iload_n rfl rfl rfl ?_
                refine jv_iconst rfl rfl ?_
                refine jv_icmp_ne rfl rfl rfl (fun c11_1 => ?_) (fun c11_1 => ?_)
                · first
                  | (exfalso; omega)
                  | skip
                    refine jv_aload_n rfl rfl rfl (by decide) ?_
                    refine jv_geti rfl rfl rfl ⟨by decide, rfl⟩ (by decide) ?_
                    rw [show μ 24 3 = (T 1) by rw [V_0_μ]; exact hd.1.2.2.2]
                    refine jv_bipush rfl rfl ?_
                    refine jv_icmp_ltF rfl rfl (by omega) ?_
                    refine jv_aload_n rfl rfl rfl (by decide) ?_
                    refine jv_iconst rfl rfl ?_
                    refine jv_callV1 rfl rfl rfl rfl ⟨by decide, rfl⟩ (Nat.le_of_ble_eq_true rfl) (cl_refuse (fun μ22_1 eμ22_1 => ?_))
                    show jV _ _ jm_p_X6_readComers _ 23 [some (.inr (.inr 5)), some (.inr (.inr 24)), some (.inl x2_8_1), o3] [.inl 0] μ22_1
                    have nμ22_1 : jno μ μ22_1 N a 3 := ⟨fun z q => by rw [eμ22_1, jm_off1 q], by rw [eμ22_1]; exact Rμ.1, by rw [eμ22_1]; exact Rμ.2.1, by rw [eμ22_1]; rfl⟩
                    have Gμ22_1 : ∀ z, z ≠ 5 → z ≠ 24 → z ≠ (35 + T 1) → μ22_1 z = μ z := fun z p0 p1 p2 => (nμ22_1.1 z p0).trans (Gμ z p0 p1 p2)
                    refine jv_ireturn rfl (Or.inr ⟨rfl, by decide⟩) ?_
                    unfold jpC at hB
                    rw [if_pos ⟨by omega, by omega⟩, if_pos (by omega)] at hB
                    exact k0 3 a μ22_1 hB.symm (by decide) ⟨fun z q => (nμ22_1.1 z q.1).trans (hf z q), by exact nμ22_1.2.1, by exact nμ22_1.2.2.1, by exact nμ22_1.2.2.2⟩
                · first
                  | (exfalso; omega)
                  | skip
                    refine jv_aload_n rfl rfl rfl (by decide) ?_
                    refine jv_iconst rfl rfl ?_
                    refine jv_callV1 rfl rfl rfl rfl ⟨by decide, rfl⟩ (Nat.le_of_ble_eq_true rfl) (cl_refuse (fun μ14_2 eμ14_2 => ?_))
                    show jV _ _ jm_p_X6_readComers _ 15 [some (.inr (.inr 5)), some (.inr (.inr 24)), some (.inl x2_8_1), o3] [.inl 0] μ14_2
                    have nμ14_2 : jno μ μ14_2 N a 1 := ⟨fun z q => by rw [eμ14_2, jm_off1 q], by rw [eμ14_2]; exact Rμ.1, by rw [eμ14_2]; exact Rμ.2.1, by rw [eμ14_2]; rfl⟩
                    have Gμ14_2 : ∀ z, z ≠ 5 → z ≠ 24 → z ≠ (35 + T 1) → μ14_2 z = μ z := fun z p0 p1 p2 => (nμ14_2.1 z p0).trans (Gμ z p0 p1 p2)
                    refine jv_ireturn rfl (Or.inr ⟨rfl, by decide⟩) ?_
                    unfold jpC at hB
                    rw [if_neg (fun z => by omega), if_neg (by omega)] at hB
                    exact k0 1 a μ14_2 hB.symm (by decide) ⟨fun z q => (nμ14_2.1 z q.1).trans (hf z q), by exact nμ14_2.2.1, by exact nμ14_2.2.2.1, by exact nμ14_2.2.2.2⟩
            · first
              | (exfalso; omega)
              | skip
                show jV _ _ jm_p_X6_readComers _ 8 [some (.inr (.inr 5)), some (.inr (.inr 24)), o2, o3] [.inl (-1)] μ
                refine jv_istore_nK (L2 := [some (.inr (.inr 5)), some (.inr (.inr 24)), some (.inl (-1)), o3]) rfl rfl rfl ?_
                refine jv_iload_n rfl rfl rfl ?_
                refine jv_iconst rfl rfl ?_
                refine jv_icmp_neF rfl rfl (by decide) ?_
                refine jv_aload_n rfl rfl rfl (by decide) ?_
                refine jv_iconst rfl rfl ?_
                refine jv_callV1 rfl rfl rfl rfl ⟨by decide, rfl⟩ (Nat.le_of_ble_eq_true rfl) (cl_refuse (fun μ14_3 eμ14_3 => ?_))
                show jV _ _ jm_p_X6_readComers _ 15 [some (.inr (.inr 5)), some (.inr (.inr 24)), some (.inl (-1)), o3] [.inl 0] μ14_3
                have nμ14_3 : jno μ μ14_3 N a 1 := ⟨fun z q => by rw [eμ14_3, jm_off1 q], by rw [eμ14_3]; exact Rμ.1, by rw [eμ14_3]; exact Rμ.2.1, by rw [eμ14_3]; rfl⟩
                have Gμ14_3 : ∀ z, z ≠ 5 → z ≠ 24 → z ≠ (35 + T 1) → μ14_3 z = μ z := fun z p0 p1 p2 => (nμ14_3.1 z p0).trans (Gμ z p0 p1 p2)
                refine jv_ireturn rfl (Or.inr ⟨rfl, by decide⟩) ?_
                unfold jpC at hB
                rw [if_neg (fun z => by omega), if_neg (by omega)] at hB
                exact k0 1 a μ14_3 hB.symm (by decide) ⟨fun z q => (nμ14_3.1 z q.1).trans (hf z q), by exact nμ14_3.2.1, by exact nμ14_3.2.2.1, by exact nμ14_3.2.2.2⟩
  | succ k ih =>
    intro a T o2 o3 μ hk ht h1 Rμ Wμ hd hf hB
    have Gμ : ∀ z, z ≠ 5 → z ≠ 24 → z ≠ (35 + T 1) → μ z = μ z := fun _ _ _ _ => rfl
    have V_0_μ : μ 24 = μ 24 := rfl
    have V_1_μ : μ (35 + T 1) = μ (35 + T 1) := rfl
    have t0 := ht.1.1
    have t1 := ht.1.2.1
    have hkr0 := jkl_r (c := g a)
    have hra := Rμ.2.2.1
    refine jv_aload_n rfl rfl rfl (by decide) ?_
    refine jv_geti rfl rfl rfl ⟨by decide, rfl⟩ (by decide) ?_
    rw [Rμ.2.1]
    refine jv_aload_n rfl rfl rfl (by decide) ?_
    refine jv_geti rfl rfl rfl ⟨by decide, rfl⟩ (by decide) ?_
    rw [Rμ.1]
    refine jv_icmp_ge rfl rfl rfl (fun c4 => ?_) (fun c4 => ?_)
    · first
      | (exfalso; omega)
      | skip
        refine jv_iconst rfl rfl ?_
        refine jv_ireturn rfl (Or.inr ⟨rfl, by decide⟩) ?_
        unfold jpC at hB
        rw [if_neg (fun z => by omega), if_pos (by have := Rμ.2.2.1; omega)] at hB
        exact k1 a T μ hB.symm ht h1 Rμ Wμ hd hf
    · first
      | (exfalso; omega)
      | skip
        refine jv_aload_n rfl rfl rfl (by decide) ?_
        refine jv_callV0 rfl rfl rfl rfl ⟨by decide, rfl⟩ (Nat.le_of_ble_eq_true rfl) (cl_seen Rμ (fun q6 => ?_) (fun q6 => ?_))
        · first
          | (exfalso; omega)
          | skip
            show jV _ _ jm_p_X6_readComers _ 7 [some (.inr (.inr 5)), some (.inr (.inr 24)), o2, o3] [.inl (g a)] μ
            refine jv_callS1 rfl rfl rfl (Nat.le_of_ble_eq_true rfl) (cl_sortOf (fun s7 => ?_) (fun s7 => ?_))
            · first
              | (exfalso; omega)
              | skip
                show jV _ _ jm_p_X6_readComers _ 8 [some (.inr (.inr 5)), some (.inr (.inr 24)), o2, o3] [.inl (jkl (g a))] μ
                refine jv_istore_n (fun x => [some (.inr (.inr 5)), some (.inr (.inr 24)), some (.inl x), o3]) rfl rfl (fun _ => rfl) (fun x2_8 ex2_8 => ?_)
                refine jv_iload_n rfl rfl rfl ?_
                refine jv_iconst rfl rfl ?_
                refine jv_icmp_ne rfl rfl rfl (fun c11 => ?_) (fun c11 => ?_)
                · first
                  | (exfalso; omega)
                  | skip
                    refine jv_aload_n rfl rfl rfl (by decide) ?_
                    refine jv_geti rfl rfl rfl ⟨by decide, rfl⟩ (by decide) ?_
                    rw [show μ 24 3 = (T 1) by rw [V_0_μ]; exact hd.1.2.2.2]
                    refine jv_bipush rfl rfl ?_
                    refine jv_icmp_ltT rfl rfl (by omega) ?_
                    refine jv_aload_n rfl rfl rfl (by decide) ?_
                    refine jv_dupr rfl rfl ?_
                    refine jv_geti rfl rfl rfl ⟨by decide, rfl⟩ (by decide) ?_
                    rw [Rμ.2.1]
                    refine jv_iconst rfl rfl ?_
                    refine jv_iadd rfl rfl ⟨by omega, by omega⟩ ?_
                    refine jv_puti rfl rfl rfl ⟨by decide, rfl⟩ (Or.inl rfl) (fun μ29 eμ29 => ?_)
                    have Rμ29 : jrd μ29 g N (a + 1) := ⟨by rw [eμ29]; exact Rμ.1, by rw [eμ29]; rfl, by have := Rμ.2.2.1; omega, fun j j0 j1 => by rw [eμ29, jm_off1 (by decide)]; exact Rμ.2.2.2 j j0 j1⟩
                    have Wμ29 : μ29 5 3 = 0 := by rw [eμ29]; exact Wμ
                    have Gμ29 : ∀ z, z ≠ 5 → z ≠ 24 → z ≠ (35 + T 1) → μ29 z = μ z := fun z p0 p1 p2 => by rw [eμ29, jm_off1 p0]
                    have V_0_μ29 : μ29 24 = (μ 24) := by rw [eμ29, jm_off1 (by decide)]
                    have V_1_μ29 : μ29 (35 + T 1) = (μ (35 + T 1)) := by rw [eμ29, jm_off1 (by omega)]
                    refine jv_aload_n rfl rfl rfl (by decide) ?_
                    refine jv_getr (w := 26) rfl rfl rfl ⟨by decide, rfl⟩ rfl rfl ?_
                    refine jv_aload_n rfl rfl rfl (by decide) ?_
                    refine jv_geti rfl rfl rfl ⟨by decide, rfl⟩ (by decide) ?_
                    rw [show μ29 24 3 = (T 1) by rw [V_0_μ29]; exact hd.1.2.2.2]
                    refine jv_aaloadv (v := 35 + T 1) rfl rfl rfl ⟨by decide, by decide, by decide⟩ ⟨by omega, by omega⟩ (by rw [Gμ29 26 (by decide) (by decide) (by omega), hf 26 (by omega)]; exact hid (T 1) (by omega) (by omega)) ?_
                    refine jv_astore_n (L2 := [some (.inr (.inr 5)), some (.inr (.inr 24)), some (.inl x2_8), some (.inr (.inr (35 + T 1)))]) rfl rfl (by omega) rfl ?_
                    refine jv_aload_n rfl rfl rfl (by omega) ?_
                    refine jv_iload_n rfl rfl rfl ?_
                    refine jv_puti rfl rfl (jz_com_of (z := 35 + T 1) (by omega)).1 ⟨by omega, rfl⟩ (Or.inl rfl) (fun μ38 eμ38 => ?_)
                    have Rμ38 : jrd μ38 g N (a + 1) := jrd_same Rμ29 (by rw [eμ38, jm_off1 (by omega)]) (by rw [eμ38, jm_off1 (by omega)])
                    have Wμ38 : μ38 5 3 = 0 := by rw [eμ38, jm_off1 (by omega)]; exact Wμ29
                    have V_1_μ38 : μ38 (35 + T 1) = (jm_u1 (μ (35 + T 1)) 0 x2_8) := by rw [eμ38, jm_uc_self, V_1_μ29]
                    have V_0_μ38 : μ38 24 = (μ 24) := by rw [eμ38, jm_off1 (by omega), V_0_μ29]
                    have Gμ38 : ∀ z, z ≠ 5 → z ≠ 24 → z ≠ (35 + T 1) → μ38 z = μ z := fun z p0 p1 p2 => (show μ38 z = μ29 z by rw [eμ38, jm_off1 (by omega)]).trans (Gμ29 z p0 p1 p2)
                    refine jv_aload_n rfl rfl rfl (by decide) ?_
                    refine jv_aload_n rfl rfl rfl (by omega) ?_
                    refine jv_callV1 rfl rfl rfl rfl ⟨by decide, rfl⟩ (Nat.le_of_ble_eq_true rfl) (cl_readTr (jz_com_of (by omega)) ⟨by omega, by omega⟩ Rμ38 Wμ38 (fun b41 s41 f41 m41 μ41 e41 ls lf lm Rμ41 Wμ41 v41 g41 => ?_) (fun w41 b41 μ41 e41 lw g41 n41 => ?_))
                    · first
                      | (exfalso; omega)
                      | skip
                        show jV _ _ jm_p_X6_readComers _ 42 [some (.inr (.inr 5)), some (.inr (.inr 24)), some (.inl x2_8), some (.inr (.inr (35 + T 1)))] [.inl 1] μ41
                        have Gμ41 : ∀ z, z ≠ 5 → z ≠ 24 → z ≠ (35 + T 1) → μ41 z = μ z := fun z p0 p1 p2 => (g41 z p0 p2).trans (Gμ38 z p0 p1 p2)
                        have V_0_μ41 : μ41 24 = (μ 24) := (g41 24 (by decide) (by omega)).trans V_0_μ38
                        have V_1_μ41 : μ41 (35 + T 1) = (jm_u1 (jm_u1 (jm_u1 (jm_u1 (μ (35 + T 1)) 0 x2_8) 1 s41) 2 f41) 3 m41) := by rw [v41, V_1_μ38]
                        refine jv_if_neT rfl rfl (by decide) ?_
                        refine jv_aload_n rfl rfl rfl (by decide) ?_
                        refine jv_dupr rfl rfl ?_
                        refine jv_geti rfl rfl rfl ⟨by decide, rfl⟩ (by decide) ?_
                        rw [show μ41 24 3 = (T 1) by rw [V_0_μ41]; exact hd.1.2.2.2]
                        refine jv_iconst rfl rfl ?_
                        refine jv_iadd rfl rfl ⟨by omega, by omega⟩ ?_
                        refine jv_puti rfl rfl rfl ⟨by decide, rfl⟩ (Or.inl rfl) (fun μ50 eμ50 => ?_)
                        have Rμ50 : jrd μ50 g N b41 := jrd_same Rμ41 (by rw [eμ50, jm_off1 (by omega)]) (by rw [eμ50, jm_off1 (by omega)])
                        have Wμ50 : μ50 5 3 = 0 := by rw [eμ50, jm_off1 (by omega)]; exact Wμ41
                        have V_0_μ50 : μ50 24 = (jm_u1 (μ 24) 3 ((T 1) + 1)) := by rw [eμ50, jm_uc_self, V_0_μ41]
                        have V_1_μ50 : μ50 (35 + T 1) = (jm_u1 (jm_u1 (jm_u1 (jm_u1 (μ (35 + T 1)) 0 x2_8) 1 s41) 2 f41) 3 m41) := by rw [eμ50, jm_off1 (by omega), V_1_μ41]
                        have Gμ50 : ∀ z, z ≠ 5 → z ≠ 24 → z ≠ (35 + T 1) → μ50 z = μ z := fun z p0 p1 p2 => (show μ50 z = μ41 z by rw [eμ50, jm_off1 (by omega)]).trans (Gμ41 z p0 p1 p2)
                        refine jv_goto rfl rfl ?_
                        have hkr := jkl_r (c := g a)
                        have ht2 : jtv (jtc4 T (jkl (g a)) s41 f41 m41) := jtv_com ht (by omega) (by omega) ls lf lm
                        have hd2 : jdr μ50 (jtc4 T (jkl (g a)) s41 f41 m41) := jdr_com ht (by omega) hd (fun z p q r => Gμ50 z p q r) (by rw [V_1_μ50]; exact ⟨ex2_8, rfl, rfl, rfl, hd.2.2.2.2 (T 1) (by omega) (by omega)⟩) V_0_μ50
                        have hf2 : jfr μ0 μ50 := fun z q => (Gμ50 z q.1 (by omega) (by omega)).trans (hf z q)
                        have e12 : (jtc4 T (jkl (g a)) s41 f41 m41) 1 = T 1 + 1 := (jtc4_n (by omega)).1
                        have e02 : (jtc4 T (jkl (g a)) s41 f41 m41) 0 = T 0 := jtc4_o (by omega)
                        unfold jpC at hB
                        rw [if_pos ⟨by omega, by omega⟩, if_neg (by omega)] at hB
                        change jpt g N (a + 1) (fun b s f m => jpC g N (k + 1) b (jtc4 T (jkl (g a)) s f m)) = B at hB
                        rw [e41] at hB
                        exact ih b41 (jtc4 T (jkl (g a)) s41 f41 m41) _ _ μ50 (by omega) ht2 (by omega) Rμ50 Wμ50 hd2 hf2 hB
                    · first
                      | (exfalso; omega)
                      | skip
                        show jV _ _ jm_p_X6_readComers _ 42 [some (.inr (.inr 5)), some (.inr (.inr 24)), some (.inl x2_8), some (.inr (.inr (35 + T 1)))] [.inl 0] μ41
                        have Gμ41 : ∀ z, z ≠ 5 → z ≠ 24 → z ≠ (35 + T 1) → μ41 z = μ z := fun z p0 p1 p2 => (g41 z p0 p2).trans (Gμ38 z p0 p1 p2)
                        refine jv_if_neF rfl rfl (by decide) ?_
                        refine jv_iconst rfl rfl ?_
                        refine jv_ireturn rfl (Or.inr ⟨rfl, by decide⟩) ?_
                        unfold jpC at hB
                        rw [if_pos ⟨by omega, by omega⟩, if_neg (by omega)] at hB
                        change jpt g N (a + 1) (fun b s f m => jpC g N (k + 1) b (jtc4 T (jkl (g a)) s f m)) = B at hB
                        rw [e41] at hB
                        exact k0 w41 b41 μ41 hB.symm lw ⟨fun z q => (Gμ41 z q.1 (by omega) (by omega)).trans (hf z q), n41.1, n41.2.1, n41.2.2⟩
                · first
                  | (exfalso; omega)
                  | skip
                    refine jv_aload_n rfl rfl rfl (by decide) ?_
                    refine jv_iconst rfl rfl ?_
                    refine jv_callV1 rfl rfl rfl rfl ⟨by decide, rfl⟩ (Nat.le_of_ble_eq_true rfl) (cl_refuse (fun μ14 eμ14 => ?_))
                    show jV _ _ jm_p_X6_readComers _ 15 [some (.inr (.inr 5)), some (.inr (.inr 24)), some (.inl x2_8), o3] [.inl 0] μ14
                    have nμ14 : jno μ μ14 N a 1 := ⟨fun z q => by rw [eμ14, jm_off1 q], by rw [eμ14]; exact Rμ.1, by rw [eμ14]; exact Rμ.2.1, by rw [eμ14]; rfl⟩
                    have Gμ14 : ∀ z, z ≠ 5 → z ≠ 24 → z ≠ (35 + T 1) → μ14 z = μ z := fun z p0 p1 p2 => (nμ14.1 z p0).trans (Gμ z p0 p1 p2)
                    refine jv_ireturn rfl (Or.inr ⟨rfl, by decide⟩) ?_
                    unfold jpC at hB
                    rw [if_neg (fun z => by omega), if_neg (by omega)] at hB
                    exact k0 1 a μ14 hB.symm (by decide) ⟨fun z q => (nμ14.1 z q.1).trans (hf z q), by exact nμ14.2.1, by exact nμ14.2.2.1, by exact nμ14.2.2.2⟩
            · first
              | (exfalso; omega)
              | skip
                show jV _ _ jm_p_X6_readComers _ 8 [some (.inr (.inr 5)), some (.inr (.inr 24)), o2, o3] [.inl (-1)] μ
                refine jv_istore_nK (L2 := [some (.inr (.inr 5)), some (.inr (.inr 24)), some (.inl (-1)), o3]) rfl rfl rfl ?_
                refine jv_iload_n rfl rfl rfl ?_
                refine jv_iconst rfl rfl ?_
                refine jv_icmp_neF rfl rfl (by decide) ?_
                refine jv_aload_n rfl rfl rfl (by decide) ?_
                refine jv_iconst rfl rfl ?_
                refine jv_callV1 rfl rfl rfl rfl ⟨by decide, rfl⟩ (Nat.le_of_ble_eq_true rfl) (cl_refuse (fun μ14_1 eμ14_1 => ?_))
                show jV _ _ jm_p_X6_readComers _ 15 [some (.inr (.inr 5)), some (.inr (.inr 24)), some (.inl (-1)), o3] [.inl 0] μ14_1
                have nμ14_1 : jno μ μ14_1 N a 1 := ⟨fun z q => by rw [eμ14_1, jm_off1 q], by rw [eμ14_1]; exact Rμ.1, by rw [eμ14_1]; exact Rμ.2.1, by rw [eμ14_1]; rfl⟩
                have Gμ14_1 : ∀ z, z ≠ 5 → z ≠ 24 → z ≠ (35 + T 1) → μ14_1 z = μ z := fun z p0 p1 p2 => (nμ14_1.1 z p0).trans (Gμ z p0 p1 p2)
                refine jv_ireturn rfl (Or.inr ⟨rfl, by decide⟩) ?_
                unfold jpC at hB
                rw [if_neg (fun z => by omega), if_neg (by omega)] at hB
                exact k0 1 a μ14_1 hB.symm (by decide) ⟨fun z q => (nμ14_1.1 z q.1).trans (hf z q), by exact nμ14_1.2.1, by exact nμ14_1.2.2.1, by exact nμ14_1.2.2.2⟩
        · first
          | (exfalso; omega)
          | skip
            show jV _ _ jm_p_X6_readComers _ 7 [some (.inr (.inr 5)), some (.inr (.inr 24)), o2, o3] [.inl (-1)] μ
            refine jv_callS1 rfl rfl rfl (Nat.le_of_ble_eq_true rfl) (cl_sortOf (fun s7 => ?_) (fun s7 => ?_))
            · first
              | (exfalso; omega)
              | skip
                show jV _ _ jm_p_X6_readComers _ 8 [some (.inr (.inr 5)), some (.inr (.inr 24)), o2, o3] [.inl (jkl (g a))] μ
                refine jv_istore_n (fun x => [some (.inr (.inr 5)), some (.inr (.inr 24)), some (.inl x), o3]) rfl rfl (fun _ => rfl) (fun x2_8_1 ex2_8_1 => ?_)
                refine jv_iload_n rfl rfl rfl ?_
                refine jv_iconst rfl rfl ?_
                refine jv_icmp_ne rfl rfl rfl (fun c11_1 => ?_) (fun c11_1 => ?_)
                · first
                  | (exfalso; omega)
                  | skip
                    refine jv_aload_n rfl rfl rfl (by decide) ?_
                    refine jv_geti rfl rfl rfl ⟨by decide, rfl⟩ (by decide) ?_
                    rw [show μ 24 3 = (T 1) by rw [V_0_μ]; exact hd.1.2.2.2]
                    refine jv_bipush rfl rfl ?_
                    refine jv_icmp_ltT rfl rfl (by omega) ?_
                    refine jv_aload_n rfl rfl rfl (by decide) ?_
                    refine jv_dupr rfl rfl ?_
                    refine jv_geti rfl rfl rfl ⟨by decide, rfl⟩ (by decide) ?_
                    rw [Rμ.2.1]
                    refine jv_iconst rfl rfl ?_
                    refine jv_iadd rfl rfl ⟨by omega, by omega⟩ ?_
                    refine jv_puti rfl rfl rfl ⟨by decide, rfl⟩ (Or.inl rfl) (fun μ29_1 eμ29_1 => ?_)
                    have Rμ29_1 : jrd μ29_1 g N (a + 1) := ⟨by rw [eμ29_1]; exact Rμ.1, by rw [eμ29_1]; rfl, by have := Rμ.2.2.1; omega, fun j j0 j1 => by rw [eμ29_1, jm_off1 (by decide)]; exact Rμ.2.2.2 j j0 j1⟩
                    have Wμ29_1 : μ29_1 5 3 = 0 := by rw [eμ29_1]; exact Wμ
                    have Gμ29_1 : ∀ z, z ≠ 5 → z ≠ 24 → z ≠ (35 + T 1) → μ29_1 z = μ z := fun z p0 p1 p2 => by rw [eμ29_1, jm_off1 p0]
                    have V_0_μ29_1 : μ29_1 24 = (μ 24) := by rw [eμ29_1, jm_off1 (by decide)]
                    have V_1_μ29_1 : μ29_1 (35 + T 1) = (μ (35 + T 1)) := by rw [eμ29_1, jm_off1 (by omega)]
                    refine jv_aload_n rfl rfl rfl (by decide) ?_
                    refine jv_getr (w := 26) rfl rfl rfl ⟨by decide, rfl⟩ rfl rfl ?_
                    refine jv_aload_n rfl rfl rfl (by decide) ?_
                    refine jv_geti rfl rfl rfl ⟨by decide, rfl⟩ (by decide) ?_
                    rw [show μ29_1 24 3 = (T 1) by rw [V_0_μ29_1]; exact hd.1.2.2.2]
                    refine jv_aaloadv (v := 35 + T 1) rfl rfl rfl ⟨by decide, by decide, by decide⟩ ⟨by omega, by omega⟩ (by rw [Gμ29_1 26 (by decide) (by decide) (by omega), hf 26 (by omega)]; exact hid (T 1) (by omega) (by omega)) ?_
                    refine jv_astore_n (L2 := [some (.inr (.inr 5)), some (.inr (.inr 24)), some (.inl x2_8_1), some (.inr (.inr (35 + T 1)))]) rfl rfl (by omega) rfl ?_
                    refine jv_aload_n rfl rfl rfl (by omega) ?_
                    refine jv_iload_n rfl rfl rfl ?_
                    refine jv_puti rfl rfl (jz_com_of (z := 35 + T 1) (by omega)).1 ⟨by omega, rfl⟩ (Or.inl rfl) (fun μ38_1 eμ38_1 => ?_)
                    have Rμ38_1 : jrd μ38_1 g N (a + 1) := jrd_same Rμ29_1 (by rw [eμ38_1, jm_off1 (by omega)]) (by rw [eμ38_1, jm_off1 (by omega)])
                    have Wμ38_1 : μ38_1 5 3 = 0 := by rw [eμ38_1, jm_off1 (by omega)]; exact Wμ29_1
                    have V_1_μ38_1 : μ38_1 (35 + T 1) = (jm_u1 (μ (35 + T 1)) 0 x2_8_1) := by rw [eμ38_1, jm_uc_self, V_1_μ29_1]
                    have V_0_μ38_1 : μ38_1 24 = (μ 24) := by rw [eμ38_1, jm_off1 (by omega), V_0_μ29_1]
                    have Gμ38_1 : ∀ z, z ≠ 5 → z ≠ 24 → z ≠ (35 + T 1) → μ38_1 z = μ z := fun z p0 p1 p2 => (show μ38_1 z = μ29_1 z by rw [eμ38_1, jm_off1 (by omega)]).trans (Gμ29_1 z p0 p1 p2)
                    refine jv_aload_n rfl rfl rfl (by decide) ?_
                    refine jv_aload_n rfl rfl rfl (by omega) ?_
                    refine jv_callV1 rfl rfl rfl rfl ⟨by decide, rfl⟩ (Nat.le_of_ble_eq_true rfl) (cl_readTr (jz_com_of (by omega)) ⟨by omega, by omega⟩ Rμ38_1 Wμ38_1 (fun b41 s41 f41 m41 μ41_1 e41 ls lf lm Rμ41_1 Wμ41_1 v41 g41 => ?_) (fun w41 b41 μ41_1 e41 lw g41 n41 => ?_))
                    · first
                      | (exfalso; omega)
                      | skip
                        show jV _ _ jm_p_X6_readComers _ 42 [some (.inr (.inr 5)), some (.inr (.inr 24)), some (.inl x2_8_1), some (.inr (.inr (35 + T 1)))] [.inl 1] μ41_1
                        have Gμ41_1 : ∀ z, z ≠ 5 → z ≠ 24 → z ≠ (35 + T 1) → μ41_1 z = μ z := fun z p0 p1 p2 => (g41 z p0 p2).trans (Gμ38_1 z p0 p1 p2)
                        have V_0_μ41_1 : μ41_1 24 = (μ 24) := (g41 24 (by decide) (by omega)).trans V_0_μ38_1
                        have V_1_μ41_1 : μ41_1 (35 + T 1) = (jm_u1 (jm_u1 (jm_u1 (jm_u1 (μ (35 + T 1)) 0 x2_8_1) 1 s41) 2 f41) 3 m41) := by rw [v41, V_1_μ38_1]
                        refine jv_if_neT rfl rfl (by decide) ?_
                        refine jv_aload_n rfl rfl rfl (by decide) ?_
                        refine jv_dupr rfl rfl ?_
                        refine jv_geti rfl rfl rfl ⟨by decide, rfl⟩ (by decide) ?_
                        rw [show μ41_1 24 3 = (T 1) by rw [V_0_μ41_1]; exact hd.1.2.2.2]
                        refine jv_iconst rfl rfl ?_
                        refine jv_iadd rfl rfl ⟨by omega, by omega⟩ ?_
                        refine jv_puti rfl rfl rfl ⟨by decide, rfl⟩ (Or.inl rfl) (fun μ50_1 eμ50_1 => ?_)
                        have Rμ50_1 : jrd μ50_1 g N b41 := jrd_same Rμ41_1 (by rw [eμ50_1, jm_off1 (by omega)]) (by rw [eμ50_1, jm_off1 (by omega)])
                        have Wμ50_1 : μ50_1 5 3 = 0 := by rw [eμ50_1, jm_off1 (by omega)]; exact Wμ41_1
                        have V_0_μ50_1 : μ50_1 24 = (jm_u1 (μ 24) 3 ((T 1) + 1)) := by rw [eμ50_1, jm_uc_self, V_0_μ41_1]
                        have V_1_μ50_1 : μ50_1 (35 + T 1) = (jm_u1 (jm_u1 (jm_u1 (jm_u1 (μ (35 + T 1)) 0 x2_8_1) 1 s41) 2 f41) 3 m41) := by rw [eμ50_1, jm_off1 (by omega), V_1_μ41_1]
                        have Gμ50_1 : ∀ z, z ≠ 5 → z ≠ 24 → z ≠ (35 + T 1) → μ50_1 z = μ z := fun z p0 p1 p2 => (show μ50_1 z = μ41_1 z by rw [eμ50_1, jm_off1 (by omega)]).trans (Gμ41_1 z p0 p1 p2)
                        refine jv_goto rfl rfl ?_
                        have hkr := jkl_r (c := g a)
                        have ht2 : jtv (jtc4 T (jkl (g a)) s41 f41 m41) := jtv_com ht (by omega) (by omega) ls lf lm
                        have hd2 : jdr μ50_1 (jtc4 T (jkl (g a)) s41 f41 m41) := jdr_com ht (by omega) hd (fun z p q r => Gμ50_1 z p q r) (by rw [V_1_μ50_1]; exact ⟨ex2_8_1, rfl, rfl, rfl, hd.2.2.2.2 (T 1) (by omega) (by omega)⟩) V_0_μ50_1
                        have hf2 : jfr μ0 μ50_1 := fun z q => (Gμ50_1 z q.1 (by omega) (by omega)).trans (hf z q)
                        have e12 : (jtc4 T (jkl (g a)) s41 f41 m41) 1 = T 1 + 1 := (jtc4_n (by omega)).1
                        have e02 : (jtc4 T (jkl (g a)) s41 f41 m41) 0 = T 0 := jtc4_o (by omega)
                        unfold jpC at hB
                        rw [if_pos ⟨by omega, by omega⟩, if_neg (by omega)] at hB
                        change jpt g N (a + 1) (fun b s f m => jpC g N (k + 1) b (jtc4 T (jkl (g a)) s f m)) = B at hB
                        rw [e41] at hB
                        exact ih b41 (jtc4 T (jkl (g a)) s41 f41 m41) _ _ μ50_1 (by omega) ht2 (by omega) Rμ50_1 Wμ50_1 hd2 hf2 hB
                    · first
                      | (exfalso; omega)
                      | skip
                        show jV _ _ jm_p_X6_readComers _ 42 [some (.inr (.inr 5)), some (.inr (.inr 24)), some (.inl x2_8_1), some (.inr (.inr (35 + T 1)))] [.inl 0] μ41_1
                        have Gμ41_1 : ∀ z, z ≠ 5 → z ≠ 24 → z ≠ (35 + T 1) → μ41_1 z = μ z := fun z p0 p1 p2 => (g41 z p0 p2).trans (Gμ38_1 z p0 p1 p2)
                        refine jv_if_neF rfl rfl (by decide) ?_
                        refine jv_iconst rfl rfl ?_
                        refine jv_ireturn rfl (Or.inr ⟨rfl, by decide⟩) ?_
                        unfold jpC at hB
                        rw [if_pos ⟨by omega, by omega⟩, if_neg (by omega)] at hB
                        change jpt g N (a + 1) (fun b s f m => jpC g N (k + 1) b (jtc4 T (jkl (g a)) s f m)) = B at hB
                        rw [e41] at hB
                        exact k0 w41 b41 μ41_1 hB.symm lw ⟨fun z q => (Gμ41_1 z q.1 (by omega) (by omega)).trans (hf z q), n41.1, n41.2.1, n41.2.2⟩
                · first
                  | (exfalso; omega)
                  | skip
                    refine jv_aload_n rfl rfl rfl (by decide) ?_
                    refine jv_iconst rfl rfl ?_
                    refine jv_callV1 rfl rfl rfl rfl ⟨by decide, rfl⟩ (Nat.le_of_ble_eq_true rfl) (cl_refuse (fun μ14_2 eμ14_2 => ?_))
                    show jV _ _ jm_p_X6_readComers _ 15 [some (.inr (.inr 5)), some (.inr (.inr 24)), some (.inl x2_8_1), o3] [.inl 0] μ14_2
                    have nμ14_2 : jno μ μ14_2 N a 1 := ⟨fun z q => by rw [eμ14_2, jm_off1 q], by rw [eμ14_2]; exact Rμ.1, by rw [eμ14_2]; exact Rμ.2.1, by rw [eμ14_2]; rfl⟩
                    have Gμ14_2 : ∀ z, z ≠ 5 → z ≠ 24 → z ≠ (35 + T 1) → μ14_2 z = μ z := fun z p0 p1 p2 => (nμ14_2.1 z p0).trans (Gμ z p0 p1 p2)
                    refine jv_ireturn rfl (Or.inr ⟨rfl, by decide⟩) ?_
                    unfold jpC at hB
                    rw [if_neg (fun z => by omega), if_neg (by omega)] at hB
                    exact k0 1 a μ14_2 hB.symm (by decide) ⟨fun z q => (nμ14_2.1 z q.1).trans (hf z q), by exact nμ14_2.2.1, by exact nμ14_2.2.2.1, by exact nμ14_2.2.2.2⟩
            · first
              | (exfalso; omega)
              | skip
                show jV _ _ jm_p_X6_readComers _ 8 [some (.inr (.inr 5)), some (.inr (.inr 24)), o2, o3] [.inl (-1)] μ
                refine jv_istore_nK (L2 := [some (.inr (.inr 5)), some (.inr (.inr 24)), some (.inl (-1)), o3]) rfl rfl rfl ?_
                refine jv_iload_n rfl rfl rfl ?_
                refine jv_iconst rfl rfl ?_
                refine jv_icmp_neF rfl rfl (by decide) ?_
                refine jv_aload_n rfl rfl rfl (by decide) ?_
                refine jv_iconst rfl rfl ?_
                refine jv_callV1 rfl rfl rfl rfl ⟨by decide, rfl⟩ (Nat.le_of_ble_eq_true rfl) (cl_refuse (fun μ14_3 eμ14_3 => ?_))
                show jV _ _ jm_p_X6_readComers _ 15 [some (.inr (.inr 5)), some (.inr (.inr 24)), some (.inl (-1)), o3] [.inl 0] μ14_3
                have nμ14_3 : jno μ μ14_3 N a 1 := ⟨fun z q => by rw [eμ14_3, jm_off1 q], by rw [eμ14_3]; exact Rμ.1, by rw [eμ14_3]; exact Rμ.2.1, by rw [eμ14_3]; rfl⟩
                have Gμ14_3 : ∀ z, z ≠ 5 → z ≠ 24 → z ≠ (35 + T 1) → μ14_3 z = μ z := fun z p0 p1 p2 => (nμ14_3.1 z p0).trans (Gμ z p0 p1 p2)
                refine jv_ireturn rfl (Or.inr ⟨rfl, by decide⟩) ?_
                unfold jpC at hB
                rw [if_neg (fun z => by omega), if_neg (by omega)] at hB
                exact k0 1 a μ14_3 hB.symm (by decide) ⟨fun z q => (nμ14_3.1 z q.1).trans (hf z q), by exact nμ14_3.2.1, by exact nμ14_3.2.2.1, by exact nμ14_3.2.2.2⟩
