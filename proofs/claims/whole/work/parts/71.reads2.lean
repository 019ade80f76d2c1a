set_option maxRecDepth 10000 in
theorem mo_readsLaw {X : jm_X} {d : Nat} {Q : jv_P} {μ : jm_M} {g : Int → Int} {N : Int} (Rμ : jrm μ g N 0) (Tμ : jT μ jZ) (k1 : ∀ a l b μ2, jpL g N = (0, a, jm_u1 (jm_u1 jZ 2 l) 3 b) → (1 ≤ l ∧ l ≤ 60) → (1 ≤ b ∧ b ≤ 9) → jrm μ2 g N a → jT μ2 (jm_u1 (jm_u1 jZ 2 l) 3 b) → jfm μ μ2 → Q [.inl 1] μ2) (k0 : ∀ w a μ2, jpL g N = (w, a, jZ) → w ≠ 0 → jfm μ μ2 → μ2 94 13 = a → μ2 94 14 = w → Q [.inl 0] μ2) : cV X (d + 4) 153 [.inr (.inr 94)] μ Q := by
  have Fμ := jfm_id μ
  refine jv_enter (d := d + 3) jm_p_X10_readsLaw [some (.inr (.inr 94))] rfl rfl rfl (Nat.le_of_ble_eq_true rfl) rfl rfl ?_
  refine jv_aload_n rfl rfl rfl (by decide) ?_
  refine jv_bipush rfl rfl ?_
  refine jv_callV1 rfl rfl rfl rfl ⟨by decide, rfl⟩ (Nat.le_of_ble_eq_true rfl) (mo_sign Rμ (fun μ2 eμ2 Rμ2 fμ2 gμ2 nμ2 => ?_) (fun μ2 eμ2 fμ2 pμ2 qμ2 => ?_))
  · show jV _ _ jm_p_X10_readsLaw _ 3 [some (.inr (.inr 94))] [.inl 1] μ2
    have Fμ2 : jfm μ μ2 := jfm_tr Fμ fμ2
    have Tμ2 : jT μ2 jZ := fun j j0 j1 => by rw [gμ2]; exact Tμ j j0 j1
    refine jv_if_eqF rfl rfl (by decide) ?_
    refine jv_aload_n rfl rfl rfl (by decide) ?_
    refine jv_iconst rfl rfl ?_
    refine jv_bipush rfl rfl ?_
    refine jv_callV2 rfl rfl rfl rfl ⟨by decide, rfl⟩ (Nat.le_of_ble_eq_true rfl) (mo_readsN Rμ2 (fun b7 v7 μ7 eμ7 lμ7 Rμ7 fμ7 gμ7 Nμ7 => ?_) (fun w7 μ7 eμ7 lμ7 fμ7 pμ7 qμ7 => ?_))
    · show jV _ _ jm_p_X10_readsLaw _ 8 [some (.inr (.inr 94))] [.inl 1] μ7
      have Fμ7 : jfm μ μ7 := jfm_tr Fμ2 fμ7
      have Tμ7 : jT μ7 jZ := fun j j0 j1 => by rw [gμ7]; exact Tμ2 j j0 j1
      refine jv_if_neT rfl rfl (by decide) ?_
      refine jv_aload_n rfl rfl rfl (by decide) ?_
      refine jv_getr (w := 95) rfl rfl rfl ⟨by decide, rfl⟩ rfl rfl ?_
      refine jv_sipush rfl rfl ?_
      refine jv_aload_n rfl rfl rfl (by decide) ?_
      refine jv_geti rfl rfl rfl ⟨by decide, rfl⟩ (by decide) ?_
      rw [Nμ7]
      refine jv_iastore rfl rfl rfl (by decide) ⟨by omega, by omega⟩ (fun μ16 eμ16 => ?_)
      rw [show (1676 : Int) = 1674 + (2) by omega] at eμ16
      obtain ⟨Tμ16, fμ16, gμ16, hμ16⟩ := jT_st Tμ7 (show 0 ≤ 2 by omega) eμ16
      have Rμ16 : jrm μ16 g N b7 := jrm_same Rμ7 (by rw [gμ16]) (by rw [gμ16]) hμ16
      have Fμ16 : jfm μ μ16 := jfm_tr Fμ7 fμ16
      try have Nμ16 : μ16 94 15 = v7 := by rw [gμ16]; exact Nμ7
      refine jv_aload_n rfl rfl rfl (by decide) ?_
      refine jv_bipush rfl rfl ?_
      refine jv_callV1 rfl rfl rfl rfl ⟨by decide, rfl⟩ (Nat.le_of_ble_eq_true rfl) (mo_sign Rμ16 (fun μ19 eμ19 Rμ19 fμ19 gμ19 nμ19 => ?_) (fun μ19 eμ19 fμ19 pμ19 qμ19 => ?_))
      · show jV _ _ jm_p_X10_readsLaw _ 20 [some (.inr (.inr 94))] [.inl 1] μ19
        have Fμ19 : jfm μ μ19 := jfm_tr Fμ16 fμ19
        have Tμ19 : jT μ19 (jm_u1 jZ 2 v7) := fun j j0 j1 => by rw [gμ19]; exact Tμ16 j j0 j1
        refine jv_if_eqF rfl rfl (by decide) ?_
        refine jv_aload_n rfl rfl rfl (by decide) ?_
        refine jv_iconst rfl rfl ?_
        refine jv_bipush rfl rfl ?_
        refine jv_callV2 rfl rfl rfl rfl ⟨by decide, rfl⟩ (Nat.le_of_ble_eq_true rfl) (mo_readsN Rμ19 (fun b24 v24 μ24 eμ24 lμ24 Rμ24 fμ24 gμ24 Nμ24 => ?_) (fun w24 μ24 eμ24 lμ24 fμ24 pμ24 qμ24 => ?_))
        · show jV _ _ jm_p_X10_readsLaw _ 25 [some (.inr (.inr 94))] [.inl 1] μ24
          have Fμ24 : jfm μ μ24 := jfm_tr Fμ19 fμ24
          have Tμ24 : jT μ24 (jm_u1 jZ 2 v7) := fun j j0 j1 => by rw [gμ24]; exact Tμ19 j j0 j1
          refine jv_if_neT rfl rfl (by decide) ?_
          refine jv_aload_n rfl rfl rfl (by decide) ?_
          refine jv_getr (w := 95) rfl rfl rfl ⟨by decide, rfl⟩ rfl rfl ?_
          refine jv_sipush rfl rfl ?_
          refine jv_aload_n rfl rfl rfl (by decide) ?_
          refine jv_geti rfl rfl rfl ⟨by decide, rfl⟩ (by decide) ?_
          rw [Nμ24]
          refine jv_iastore rfl rfl rfl (by decide) ⟨by omega, by omega⟩ (fun μ33 eμ33 => ?_)
          rw [show (1677 : Int) = 1674 + (3) by omega] at eμ33
          obtain ⟨Tμ33, fμ33, gμ33, hμ33⟩ := jT_st Tμ24 (show 0 ≤ 3 by omega) eμ33
          have Rμ33 : jrm μ33 g N b24 := jrm_same Rμ24 (by rw [gμ33]) (by rw [gμ33]) hμ33
          have Fμ33 : jfm μ μ33 := jfm_tr Fμ24 fμ33
          try have Nμ33 : μ33 94 15 = v24 := by rw [gμ33]; exact Nμ24
          refine jv_aload_n rfl rfl rfl (by decide) ?_
          refine jv_bipush rfl rfl ?_
          refine jv_callV1 rfl rfl rfl rfl ⟨by decide, rfl⟩ (Nat.le_of_ble_eq_true rfl) (mo_sign Rμ33 (fun μ36 eμ36 Rμ36 fμ36 gμ36 nμ36 => ?_) (fun μ36 eμ36 fμ36 pμ36 qμ36 => ?_))
          · show jV _ _ jm_p_X10_readsLaw _ 37 [some (.inr (.inr 94))] [.inl 1] μ36
            have Fμ36 : jfm μ μ36 := jfm_tr Fμ33 fμ36
            have Tμ36 : jT μ36 (jm_u1 (jm_u1 jZ 2 v7) 3 v24) := fun j j0 j1 => by rw [gμ36]; exact Tμ33 j j0 j1
            refine jv_ireturn rfl (Or.inr ⟨rfl, by decide⟩) ?_
            exact k1 (b24 + 1) v7 v24 μ36 (by
              unfold jpL
              rw [jbd_ok eμ2, jbd_ok eμ7, jbd_ok eμ19, jbd_ok eμ24, jbd_ok eμ36]) lμ7 lμ24 Rμ36 Tμ36 Fμ36
          · show jV _ _ jm_p_X10_readsLaw _ 37 [some (.inr (.inr 94))] [.inl 0] μ36
            have Fμ36 : jfm μ μ36 := jfm_tr Fμ33 fμ36
            refine jv_ireturn rfl (Or.inr ⟨rfl, by decide⟩) ?_
            exact k0 1 b24 μ36 (by
              unfold jpL
              rw [jbd_ok eμ2, jbd_ok eμ7, jbd_ok eμ19, jbd_ok eμ24, jbd_no eμ36 (by decide)]) (by omega) Fμ36 pμ36 qμ36
        · show jV _ _ jm_p_X10_readsLaw _ 25 [some (.inr (.inr 94))] [.inl 0] μ24
          have Fμ24 : jfm μ μ24 := jfm_tr Fμ19 fμ24
          refine jv_if_neF rfl rfl (by decide) ?_
          refine jv_iconst rfl rfl ?_
          refine jv_ireturn rfl (Or.inr ⟨rfl, by decide⟩) ?_
          exact k0 w24 (b7 + 1) μ24 (by
            unfold jpL
            rw [jbd_ok eμ2, jbd_ok eμ7, jbd_ok eμ19, jbd_no eμ24 (by omega)]) (by omega) Fμ24 pμ24 qμ24
      · show jV _ _ jm_p_X10_readsLaw _ 20 [some (.inr (.inr 94))] [.inl 0] μ19
        have Fμ19 : jfm μ μ19 := jfm_tr Fμ16 fμ19
        refine jv_if_eqT rfl rfl (by decide) ?_
        refine jv_iconst rfl rfl ?_
        refine jv_ireturn rfl (Or.inr ⟨rfl, by decide⟩) ?_
        exact k0 1 b7 μ19 (by
          unfold jpL
          rw [jbd_ok eμ2, jbd_ok eμ7, jbd_no eμ19 (by decide)]) (by omega) Fμ19 pμ19 qμ19
    · show jV _ _ jm_p_X10_readsLaw _ 8 [some (.inr (.inr 94))] [.inl 0] μ7
      have Fμ7 : jfm μ μ7 := jfm_tr Fμ2 fμ7
      refine jv_if_neF rfl rfl (by decide) ?_
      refine jv_iconst rfl rfl ?_
      refine jv_ireturn rfl (Or.inr ⟨rfl, by decide⟩) ?_
      exact k0 w7 (0 + 1) μ7 (by
        unfold jpL
        rw [jbd_ok eμ2, jbd_no eμ7 (by omega)]) (by omega) Fμ7 pμ7 qμ7
  · show jV _ _ jm_p_X10_readsLaw _ 3 [some (.inr (.inr 94))] [.inl 0] μ2
    have Fμ2 : jfm μ μ2 := jfm_tr Fμ fμ2
    refine jv_if_eqT rfl rfl (by decide) ?_
    refine jv_iconst rfl rfl ?_
    refine jv_ireturn rfl (Or.inr ⟨rfl, by decide⟩) ?_
    exact k0 1 0 μ2 (by
      unfold jpL
      rw [jbd_no eμ2 (by decide)]) (by omega) Fμ2 pμ2 qμ2
set_option maxRecDepth 10000 in
theorem mo_readsMat {X : jm_X} {d : Nat} {Q : jv_P} {μ : jm_M} {g : Int → Int} {N a : Int} {T : Int → Int} (ha : a < N ∧ g a = 109) (h0 : 0 ≤ T 0 ∧ T 0 ≤ 4) (Rμ : jrm μ g N a) (Tμ : jT μ T) (k1 : ∀ a2 v μ2, (∀ k, jpM g N (k + 1) a T = jpM g N k a2 (jm_u1 (jm_u1 T (4 + T 0) v) 0 (T 0 + 1))) → (0 ≤ v ∧ v ≤ 5) → jrm μ2 g N a2 → jT μ2 (jm_u1 (jm_u1 T (4 + T 0) v) 0 (T 0 + 1)) → jfm μ μ2 → Q [.inl 1] μ2) (k0 : ∀ w a2 μ2, (∀ k, jpM g N (k + 1) a T = (w, a2, jZ)) → w ≠ 0 → jfm μ μ2 → μ2 94 13 = a2 → μ2 94 14 = w → Q [.inl 0] μ2) : cV X (d + 4) 154 [.inr (.inr 94)] μ Q := by
  have Fμ := jfm_id μ
  have hra := Rμ.2.2.1
  refine jv_enter (d := d + 3) jm_p_X10_readsMat [some (.inr (.inr 94)), none] rfl rfl rfl (Nat.le_of_ble_eq_true rfl) rfl rfl ?_
  refine jv_aload_n rfl rfl rfl (by decide) ?_
  refine jv_getr (w := 95) rfl rfl rfl ⟨by decide, rfl⟩ rfl rfl ?_
  refine jv_sipush rfl rfl ?_
  refine jv_iaload rfl rfl (by decide) rfl ⟨by omega, by omega⟩ ?_
  rw [show μ 95 1674 = (T 0) from (Tμ 0 (by decide) (by decide)).trans rfl]
  refine jv_istore_n (fun x => [some (.inr (.inr 94)), some (.inl x)]) rfl rfl (fun _ => rfl) (fun x1_4 ex1_4 => ?_)
  refine jv_iload_n rfl rfl rfl ?_
  refine jv_iconst rfl rfl ?_
  refine jv_icmp_ne rfl rfl rfl (fun c7 => ?_) (fun c7 => ?_)
  · refine jv_aload_n rfl rfl rfl (by decide) ?_
    refine jv_dupr rfl rfl ?_
    refine jv_geti rfl rfl rfl ⟨by decide, rfl⟩ (by decide) ?_
    rw [Rμ.2.1]
    refine jv_iconst rfl rfl ?_
    refine jv_iadd rfl rfl ⟨by omega, by omega⟩ ?_
    refine jv_puti rfl rfl rfl ⟨by decide, rfl⟩ (Or.inl rfl) (fun μ17 eμ17 => ?_)
    obtain ⟨fμ17, gμ17, hμ17⟩ := jfm_94 (Or.inl rfl) eμ17
    have Rμ17 : jrm μ17 g N (a + 1) := ⟨by rw [eμ17]; exact Rμ.1, by rw [eμ17]; rfl, by have := Rμ.2.2.1; omega, fun j j0 j1 => by rw [hμ17]; exact Rμ.2.2.2 j j0 j1⟩
    have Fμ17 : jfm μ μ17 := jfm_tr Fμ fμ17
    have Tμ17 : jT μ17 T := fun j j0 j1 => by rw [gμ17]; exact Tμ j j0 j1
    refine jv_aload_n rfl rfl rfl (by decide) ?_
    refine jv_iconst rfl rfl ?_
    refine jv_iconst rfl rfl ?_
    refine jv_callV2 rfl rfl rfl rfl ⟨by decide, rfl⟩ (Nat.le_of_ble_eq_true rfl) (mo_readsN Rμ17 (fun b21 v21 μ21 eμ21 lμ21 Rμ21 fμ21 gμ21 Nμ21 => ?_) (fun w21 μ21 eμ21 lμ21 fμ21 pμ21 qμ21 => ?_))
    · show jV _ _ jm_p_X10_readsMat _ 22 [some (.inr (.inr 94)), some (.inl x1_4)] [.inl 1] μ21
      have Fμ21 : jfm μ μ21 := jfm_tr Fμ17 fμ21
      have Tμ21 : jT μ21 T := fun j j0 j1 => by rw [gμ21]; exact Tμ17 j j0 j1
      refine jv_if_neT rfl rfl (by decide) ?_
      refine jv_aload_n rfl rfl rfl (by decide) ?_
      refine jv_getr (w := 95) rfl rfl rfl ⟨by decide, rfl⟩ rfl rfl ?_
      refine jv_sipush rfl rfl ?_
      refine jv_iload_n rfl rfl rfl ?_
      refine jv_iadd rfl rfl ⟨by omega, by omega⟩ ?_
      refine jv_aload_n rfl rfl rfl (by decide) ?_
      refine jv_geti rfl rfl rfl ⟨by decide, rfl⟩ (by decide) ?_
      rw [Nμ21]
      refine jv_iastore rfl rfl rfl (by decide) ⟨by omega, by omega⟩ (fun μ32 eμ32 => ?_)
      rw [show ((1678 + x1_4) : Int) = 1674 + (4 + T 0) by omega] at eμ32
      obtain ⟨Tμ32, fμ32, gμ32, hμ32⟩ := jT_st Tμ21 (show 0 ≤ 4 + T 0 by omega) eμ32
      have Rμ32 : jrm μ32 g N b21 := jrm_same Rμ21 (by rw [gμ32]) (by rw [gμ32]) hμ32
      have Fμ32 : jfm μ μ32 := jfm_tr Fμ21 fμ32
      try have Nμ32 : μ32 94 15 = v21 := by rw [gμ32]; exact Nμ21
      refine jv_aload_n rfl rfl rfl (by decide) ?_
      refine jv_getr (w := 95) rfl rfl rfl ⟨by decide, rfl⟩ rfl rfl ?_
      refine jv_sipush rfl rfl ?_
      refine jv_dup2 rfl rfl ?_
      refine jv_iaload rfl rfl (by decide) rfl ⟨by omega, by omega⟩ ?_
      rw [show μ32 95 1674 = (T 0) from (Tμ32 0 (by decide) (by decide)).trans (if_neg (by omega))]
      refine jv_iconst rfl rfl ?_
      refine jv_iadd rfl rfl ⟨by omega, by omega⟩ ?_
      refine jv_iastore rfl rfl rfl (by decide) ⟨by omega, by omega⟩ (fun μ40 eμ40 => ?_)
      rw [show (1674 : Int) = 1674 + (0) by omega] at eμ40
      obtain ⟨Tμ40, fμ40, gμ40, hμ40⟩ := jT_st Tμ32 (show 0 ≤ 0 by omega) eμ40
      have Rμ40 : jrm μ40 g N b21 := jrm_same Rμ32 (by rw [gμ40]) (by rw [gμ40]) hμ40
      have Fμ40 : jfm μ μ40 := jfm_tr Fμ32 fμ40
      try have Nμ40 : μ40 94 15 = v21 := by rw [gμ40]; exact Nμ32
      refine jv_aload_n rfl rfl rfl (by decide) ?_
      refine jv_bipush rfl rfl ?_
      refine jv_callV1 rfl rfl rfl rfl ⟨by decide, rfl⟩ (Nat.le_of_ble_eq_true rfl) (mo_sign Rμ40 (fun μ43 eμ43 Rμ43 fμ43 gμ43 nμ43 => ?_) (fun μ43 eμ43 fμ43 pμ43 qμ43 => ?_))
      · show jV _ _ jm_p_X10_readsMat _ 44 [some (.inr (.inr 94)), some (.inl x1_4)] [.inl 1] μ43
        have Fμ43 : jfm μ μ43 := jfm_tr Fμ40 fμ43
        have Tμ43 : jT μ43 (jm_u1 (jm_u1 T (4 + T 0) v21) 0 ((T 0) + 1)) := fun j j0 j1 => by rw [gμ43]; exact Tμ40 j j0 j1
        refine jv_ireturn rfl (Or.inr ⟨rfl, by decide⟩) ?_
        exact k1 (b21 + 1) v21 μ43 (fun k => by
          conv => lhs; unfold jpM
          rw [if_pos ha, if_neg (by omega), jbd_ok eμ21, jbd_ok eμ43]) lμ21 Rμ43 Tμ43 Fμ43
      · show jV _ _ jm_p_X10_readsMat _ 44 [some (.inr (.inr 94)), some (.inl x1_4)] [.inl 0] μ43
        have Fμ43 : jfm μ μ43 := jfm_tr Fμ40 fμ43
        refine jv_ireturn rfl (Or.inr ⟨rfl, by decide⟩) ?_
        exact k0 1 b21 μ43 (fun k => by
          conv => lhs; unfold jpM
          rw [if_pos ha, if_neg (by omega), jbd_ok eμ21, jbd_no eμ43 (by decide)]) (by omega) Fμ43 pμ43 qμ43
    · show jV _ _ jm_p_X10_readsMat _ 22 [some (.inr (.inr 94)), some (.inl x1_4)] [.inl 0] μ21
      have Fμ21 : jfm μ μ21 := jfm_tr Fμ17 fμ21
      refine jv_if_neF rfl rfl (by decide) ?_
      refine jv_iconst rfl rfl ?_
      refine jv_ireturn rfl (Or.inr ⟨rfl, by decide⟩) ?_
      exact k0 w21 (a + 1) μ21 (fun k => by
        conv => lhs; unfold jpM
        rw [if_pos ha, if_neg (by omega), jbd_no eμ21 (by omega)]) (by omega) Fμ21 pμ21 qμ21
  · refine jv_aload_n rfl rfl rfl (by decide) ?_
    refine jv_iconst rfl rfl ?_
    refine jv_callV1 rfl rfl rfl rfl ⟨by decide, rfl⟩ (Nat.le_of_ble_eq_true rfl) (mo_refuse (fun μ10 eμ10 => ?_))
    show jV _ _ jm_p_X10_readsMat _ 11 [some (.inr (.inr 94)), some (.inl x1_4)] [.inl 0] μ10
    obtain ⟨fμ10, -, -⟩ := jfm_94 (Or.inr (Or.inl rfl)) eμ10
    have Fμ10 : jfm μ μ10 := jfm_tr Fμ fμ10
    have pμ10 : μ10 94 13 = a := by rw [eμ10]; exact Rμ.2.1
    have qμ10 : μ10 94 14 = 3 := by rw [eμ10]; rfl
    refine jv_ireturn rfl (Or.inr ⟨rfl, by decide⟩) ?_
    exact k0 3 a μ10 (fun k => by unfold jpM; rw [if_pos ha, if_pos (by omega)]) (by decide) Fμ10 pμ10 qμ10
set_option maxRecDepth 10000 in
theorem mo_kol {X : jm_X} {d : Nat} {Q : jv_P} {μ : jm_M} {c : Int} (k : Q [.inl (jkl c)] μ) : cV X (d + 1) 155 [.inl c] μ Q := by
  refine jv_enter (d := d + 0) jm_p_X10_kindOfLetter [some (.inl c)] rfl rfl rfl (Nat.le_of_ble_eq_true rfl) rfl rfl ?_
  refine jv_iload_n rfl rfl rfl ?_
  refine jv_bipush rfl rfl ?_
  refine jv_icmp_ne rfl rfl rfl (fun c2 => ?_) (fun c2 => ?_)
  · refine jv_iload_n rfl rfl rfl ?_
    refine jv_bipush rfl rfl ?_
    refine jv_icmp_ne rfl rfl rfl (fun c7 => ?_) (fun c7 => ?_)
    · refine jv_iload_n rfl rfl rfl ?_
      refine jv_bipush rfl rfl ?_
      refine jv_icmp_ne rfl rfl rfl (fun c12 => ?_) (fun c12 => ?_)
      · refine jv_iload_n rfl rfl rfl ?_
        refine jv_bipush rfl rfl ?_
        refine jv_icmp_ne rfl rfl rfl (fun c17 => ?_) (fun c17 => ?_)
        · refine jv_iload_n rfl rfl rfl ?_
          refine jv_bipush rfl rfl ?_
          refine jv_icmp_ne rfl rfl rfl (fun c22 => ?_) (fun c22 => ?_)
          · refine jv_iconst rfl rfl ?_
            refine jv_ireturn rfl (Or.inl rfl) ?_
            have e : jkl c = 0 := by unfold jkl; (repeat' split) <;> omega
            rw [e] at k
            exact k
          · refine jv_iconst rfl rfl ?_
            refine jv_goto rfl rfl ?_
            refine jv_ireturn rfl (Or.inl rfl) ?_
            have e : jkl c = 5 := by unfold jkl; (repeat' split) <;> omega
            rw [e] at k
            exact k
        · refine jv_iconst rfl rfl ?_
          refine jv_goto rfl rfl ?_
          refine jv_ireturn rfl (Or.inl rfl) ?_
          have e : jkl c = 4 := by unfold jkl; (repeat' split) <;> omega
          rw [e] at k
          exact k
      · refine jv_iconst rfl rfl ?_
        refine jv_goto rfl rfl ?_
        refine jv_ireturn rfl (Or.inl rfl) ?_
        have e : jkl c = 3 := by unfold jkl; (repeat' split) <;> omega
        rw [e] at k
        exact k
    · refine jv_iconst rfl rfl ?_
      refine jv_goto rfl rfl ?_
      refine jv_ireturn rfl (Or.inl rfl) ?_
      have e : jkl c = 2 := by unfold jkl; (repeat' split) <;> omega
      rw [e] at k
      exact k
  · refine jv_iconst rfl rfl ?_
    refine jv_goto rfl rfl ?_
    refine jv_ireturn rfl (Or.inl rfl) ?_
    have e : jkl c = 1 := by unfold jkl; (repeat' split) <;> omega
    rw [e] at k
    exact k
set_option maxRecDepth 10000 in
theorem mo_isSort {X : jm_X} {d : Nat} {Q : jv_P} {μ : jm_M} {g : Int → Int} {N a : Int} (hr : jrm μ g N a) (k1 : a < N ∧ 0 < jkl (g a) → Q [.inl 1] μ) (k0 : ¬ (a < N ∧ 0 < jkl (g a)) → Q [.inl 0] μ) : cV X (d + 2) 157 [.inr (.inr 94)] μ Q := by
  obtain ⟨h1, h2, h3, h6⟩ := id hr
  have h6a := h6 a h3.1
  refine jv_enter (d := d + 1) jm_p_X10_isSort [some (.inr (.inr 94))] rfl rfl rfl (Nat.le_of_ble_eq_true rfl) rfl rfl ?_
  refine jv_aload_n rfl rfl rfl (by decide) ?_
  refine jv_geti rfl rfl rfl ⟨by decide, rfl⟩ (by decide) ?_
  rw [h2]
  refine jv_aload_n rfl rfl rfl (by decide) ?_
  refine jv_geti rfl rfl rfl ⟨by decide, rfl⟩ (by decide) ?_
  rw [h1]
  refine jv_icmp_ge rfl rfl rfl (fun c4 => ?_) (fun c4 => ?_)
  · refine jv_iconst rfl rfl ?_
    refine jv_ireturn rfl (Or.inr ⟨rfl, by decide⟩) ?_
    exact k0 (fun z => by omega)
  · refine jv_aload_n rfl rfl rfl (by decide) ?_
    refine jv_getr (w := 100) rfl rfl rfl ⟨by decide, rfl⟩ rfl rfl ?_
    refine jv_aload_n rfl rfl rfl (by decide) ?_
    refine jv_geti rfl rfl rfl ⟨by decide, rfl⟩ (by decide) ?_
    rw [h2]
    refine jv_iaload rfl rfl (by decide) rfl ⟨by omega, by omega⟩ ?_
    rw [(h6a (by omega)).1]
    refine jv_callS1 rfl rfl rfl (Nat.le_of_ble_eq_true rfl) (mo_kol ?_)
    show jV _ _ jm_p_X10_isSort _ 11 [some (.inr (.inr 94))] [.inl (jkl (g a))] μ
    refine jv_if_le rfl rfl rfl (fun c11 => ?_) (fun c11 => ?_)
    · refine jv_iconst rfl rfl ?_
      refine jv_ireturn rfl (Or.inr ⟨rfl, by decide⟩) ?_
      exact k0 (fun z => by omega)
    · refine jv_iconst rfl rfl ?_
      refine jv_goto rfl rfl ?_
      refine jv_ireturn rfl (Or.inr ⟨rfl, by decide⟩) ?_
      exact k1 ⟨by omega, by omega⟩
set_option maxRecDepth 10000 in
set_option maxHeartbeats 1000000 in
theorem mo_readsCom {X : jm_X} {d : Nat} {Q : jv_P} {μ : jm_M} {g : Int → Int} {N a : Int} {T : Int → Int} (ha : a < N ∧ 0 < jkl (g a)) (h0 : 0 ≤ T 1 ∧ T 1 ≤ 6) (Rμ : jrm μ g N a) (Tμ : jT μ T) (k1 : ∀ a2 s f m μ2, (∀ k, jpC g N (k + 1) a T = jpC g N k a2 (jtc4 T (jkl (g a)) s f m)) → (0 ≤ s ∧ s ≤ 30) → (0 ≤ f ∧ f ≤ 5) → (1 ≤ m ∧ m ≤ 9) → jrm μ2 g N a2 → jT μ2 (jtc4 T (jkl (g a)) s f m) → jfm μ μ2 → Q [.inl 1] μ2) (k0 : ∀ w a2 μ2, (∀ k, jpC g N (k + 1) a T = (w, a2, jZ)) → w ≠ 0 → jfm μ μ2 → μ2 94 13 = a2 → μ2 94 14 = w → Q [.inl 0] μ2) : cV X (d + 4) 156 [.inr (.inr 94)] μ Q := by
  have Fμ := jfm_id μ
  have hra := Rμ.2.2.1
  refine jv_enter (d := d + 3) jm_p_X10_readsComer [some (.inr (.inr 94)), none] rfl rfl rfl (Nat.le_of_ble_eq_true rfl) rfl rfl ?_
  refine jv_aload_n rfl rfl rfl (by decide) ?_
  refine jv_getr (w := 95) rfl rfl rfl ⟨by decide, rfl⟩ rfl rfl ?_
  refine jv_sipush rfl rfl ?_
  refine jv_iaload rfl rfl (by decide) rfl ⟨by omega, by omega⟩ ?_
  rw [show μ 95 1675 = (T 1) from (Tμ 1 (by decide) (by decide)).trans rfl]
  refine jv_istore_n (fun x => [some (.inr (.inr 94)), some (.inl x)]) rfl rfl (fun _ => rfl) (fun x1_4 ex1_4 => ?_)
  refine jv_iload_n rfl rfl rfl ?_
  refine jv_bipush rfl rfl ?_
  refine jv_icmp_ne rfl rfl rfl (fun c7 => ?_) (fun c7 => ?_)
  · refine jv_aload_n rfl rfl rfl (by decide) ?_
    refine jv_getr (w := 95) rfl rfl rfl ⟨by decide, rfl⟩ rfl rfl ?_
    refine jv_sipush rfl rfl ?_
    refine jv_iload_n rfl rfl rfl ?_
    refine jv_iadd rfl rfl ⟨by omega, by omega⟩ ?_
    refine jv_aload_n rfl rfl rfl (by decide) ?_
    refine jv_getr (w := 100) rfl rfl rfl ⟨by decide, rfl⟩ rfl rfl ?_
    refine jv_aload_n rfl rfl rfl (by decide) ?_
    refine jv_geti rfl rfl rfl ⟨by decide, rfl⟩ (by decide) ?_
    rw [Rμ.2.1]
    refine jv_iaload rfl rfl (by decide) rfl ⟨by omega, by omega⟩ ?_
    rw [(Rμ.2.2.2 a (by omega) (by omega)).1]
    refine jv_callS1 rfl rfl rfl (Nat.le_of_ble_eq_true rfl) (mo_kol ?_)
    show jV _ _ jm_p_X10_readsComer _ 23 [some (.inr (.inr 94)), some (.inl x1_4)] [.inl (jkl (g a)), .inl (1706 + x1_4), .inr (.inr 95)] μ
    refine jv_iastore rfl rfl rfl (by decide) ⟨by omega, by omega⟩ (fun μ23 eμ23 => ?_)
    rw [show ((1706 + x1_4) : Int) = 1674 + (32 + T 1) by omega] at eμ23
    obtain ⟨Tμ23, fμ23, gμ23, hμ23⟩ := jT_st Tμ (show 0 ≤ 32 + T 1 by omega) eμ23
    have Rμ23 : jrm μ23 g N a := jrm_same Rμ (by rw [gμ23]) (by rw [gμ23]) hμ23
    have Fμ23 : jfm μ μ23 := jfm_tr Fμ fμ23
    refine jv_aload_n rfl rfl rfl (by decide) ?_
    refine jv_dupr rfl rfl ?_
    refine jv_geti rfl rfl rfl ⟨by decide, rfl⟩ (by decide) ?_
    rw [Rμ23.2.1]
    refine jv_iconst rfl rfl ?_
    refine jv_iadd rfl rfl ⟨by omega, by omega⟩ ?_
    refine jv_puti rfl rfl rfl ⟨by decide, rfl⟩ (Or.inl rfl) (fun μ29 eμ29 => ?_)
    obtain ⟨fμ29, gμ29, hμ29⟩ := jfm_94 (Or.inl rfl) eμ29
    have Rμ29 : jrm μ29 g N (a + 1) := ⟨by rw [eμ29]; exact Rμ23.1, by rw [eμ29]; rfl, by have := Rμ23.2.2.1; omega, fun j j0 j1 => by rw [hμ29]; exact Rμ23.2.2.2 j j0 j1⟩
    have Fμ29 : jfm μ μ29 := jfm_tr Fμ23 fμ29
    have Tμ29 : jT μ29 (jm_u1 T (32 + T 1) (jkl (g a))) := fun j j0 j1 => by rw [gμ29]; exact Tμ23 j j0 j1
    refine jv_aload_n rfl rfl rfl (by decide) ?_
    refine jv_iconst rfl rfl ?_
    refine jv_bipush rfl rfl ?_
    refine jv_callV2 rfl rfl rfl rfl ⟨by decide, rfl⟩ (Nat.le_of_ble_eq_true rfl) (mo_readsN Rμ29 (fun b33 v33 μ33 eμ33 lμ33 Rμ33 fμ33 gμ33 Nμ33 => ?_) (fun w33 μ33 eμ33 lμ33 fμ33 pμ33 qμ33 => ?_))
    · show jV _ _ jm_p_X10_readsComer _ 34 [some (.inr (.inr 94)), some (.inl x1_4)] [.inl 1] μ33
      have Fμ33 : jfm μ μ33 := jfm_tr Fμ29 fμ33
      have Tμ33 : jT μ33 (jm_u1 T (32 + T 1) (jkl (g a))) := fun j j0 j1 => by rw [gμ33]; exact Tμ29 j j0 j1
      refine jv_if_neT rfl rfl (by decide) ?_
      refine jv_aload_n rfl rfl rfl (by decide) ?_
      refine jv_getr (w := 95) rfl rfl rfl ⟨by decide, rfl⟩ rfl rfl ?_
      refine jv_sipush rfl rfl ?_
      refine jv_iload_n rfl rfl rfl ?_
      refine jv_iadd rfl rfl ⟨by omega, by omega⟩ ?_
      refine jv_aload_n rfl rfl rfl (by decide) ?_
      refine jv_geti rfl rfl rfl ⟨by decide, rfl⟩ (by decide) ?_
      rw [Nμ33]
      refine jv_iastore rfl rfl rfl (by decide) ⟨by omega, by omega⟩ (fun μ44 eμ44 => ?_)
      rw [show ((1712 + x1_4) : Int) = 1674 + (38 + T 1) by omega] at eμ44
      obtain ⟨Tμ44, fμ44, gμ44, hμ44⟩ := jT_st Tμ33 (show 0 ≤ 38 + T 1 by omega) eμ44
      have Rμ44 : jrm μ44 g N b33 := jrm_same Rμ33 (by rw [gμ44]) (by rw [gμ44]) hμ44
      have Fμ44 : jfm μ μ44 := jfm_tr Fμ33 fμ44
      try have Nμ44 : μ44 94 15 = v33 := by rw [gμ44]; exact Nμ33
      refine jv_aload_n rfl rfl rfl (by decide) ?_
      refine jv_bipush rfl rfl ?_
      refine jv_callV1 rfl rfl rfl rfl ⟨by decide, rfl⟩ (Nat.le_of_ble_eq_true rfl) (mo_sign Rμ44 (fun μ47 eμ47 Rμ47 fμ47 gμ47 nμ47 => ?_) (fun μ47 eμ47 fμ47 pμ47 qμ47 => ?_))
      · show jV _ _ jm_p_X10_readsComer _ 48 [some (.inr (.inr 94)), some (.inl x1_4)] [.inl 1] μ47
        have Fμ47 : jfm μ μ47 := jfm_tr Fμ44 fμ47
        have Tμ47 : jT μ47 (jm_u1 (jm_u1 T (32 + T 1) (jkl (g a))) (38 + T 1) v33) := fun j j0 j1 => by rw [gμ47]; exact Tμ44 j j0 j1
        refine jv_if_eqF rfl rfl (by decide) ?_
        refine jv_aload_n rfl rfl rfl (by decide) ?_
        refine jv_iconst rfl rfl ?_
        refine jv_iconst rfl rfl ?_
        refine jv_callV2 rfl rfl rfl rfl ⟨by decide, rfl⟩ (Nat.le_of_ble_eq_true rfl) (mo_readsN Rμ47 (fun b52 v52 μ52 eμ52 lμ52 Rμ52 fμ52 gμ52 Nμ52 => ?_) (fun w52 μ52 eμ52 lμ52 fμ52 pμ52 qμ52 => ?_))
        · show jV _ _ jm_p_X10_readsComer _ 53 [some (.inr (.inr 94)), some (.inl x1_4)] [.inl 1] μ52
          have Fμ52 : jfm μ μ52 := jfm_tr Fμ47 fμ52
          have Tμ52 : jT μ52 (jm_u1 (jm_u1 T (32 + T 1) (jkl (g a))) (38 + T 1) v33) := fun j j0 j1 => by rw [gμ52]; exact Tμ47 j j0 j1
          refine jv_if_neT rfl rfl (by decide) ?_
          refine jv_aload_n rfl rfl rfl (by decide) ?_
          refine jv_getr (w := 95) rfl rfl rfl ⟨by decide, rfl⟩ rfl rfl ?_
          refine jv_sipush rfl rfl ?_
          refine jv_iload_n rfl rfl rfl ?_
          refine jv_iadd rfl rfl ⟨by omega, by omega⟩ ?_
          refine jv_aload_n rfl rfl rfl (by decide) ?_
          refine jv_geti rfl rfl rfl ⟨by decide, rfl⟩ (by decide) ?_
          rw [Nμ52]
          refine jv_iastore rfl rfl rfl (by decide) ⟨by omega, by omega⟩ (fun μ63 eμ63 => ?_)
          rw [show ((1718 + x1_4) : Int) = 1674 + (44 + T 1) by omega] at eμ63
          obtain ⟨Tμ63, fμ63, gμ63, hμ63⟩ := jT_st Tμ52 (show 0 ≤ 44 + T 1 by omega) eμ63
          have Rμ63 : jrm μ63 g N b52 := jrm_same Rμ52 (by rw [gμ63]) (by rw [gμ63]) hμ63
          have Fμ63 : jfm μ μ63 := jfm_tr Fμ52 fμ63
          try have Nμ63 : μ63 94 15 = v52 := by rw [gμ63]; exact Nμ52
          refine jv_aload_n rfl rfl rfl (by decide) ?_
          refine jv_bipush rfl rfl ?_
          refine jv_callV1 rfl rfl rfl rfl ⟨by decide, rfl⟩ (Nat.le_of_ble_eq_true rfl) (mo_sign Rμ63 (fun μ66 eμ66 Rμ66 fμ66 gμ66 nμ66 => ?_) (fun μ66 eμ66 fμ66 pμ66 qμ66 => ?_))
          · show jV _ _ jm_p_X10_readsComer _ 67 [some (.inr (.inr 94)), some (.inl x1_4)] [.inl 1] μ66
            have Fμ66 : jfm μ μ66 := jfm_tr Fμ63 fμ66
            have Tμ66 : jT μ66 (jm_u1 (jm_u1 (jm_u1 T (32 + T 1) (jkl (g a))) (38 + T 1) v33) (44 + T 1) v52) := fun j j0 j1 => by rw [gμ66]; exact Tμ63 j j0 j1
            refine jv_if_eqF rfl rfl (by decide) ?_
            refine jv_aload_n rfl rfl rfl (by decide) ?_
            refine jv_iconst rfl rfl ?_
            refine jv_bipush rfl rfl ?_
            refine jv_callV2 rfl rfl rfl rfl ⟨by decide, rfl⟩ (Nat.le_of_ble_eq_true rfl) (mo_readsN Rμ66 (fun b71 v71 μ71 eμ71 lμ71 Rμ71 fμ71 gμ71 Nμ71 => ?_) (fun w71 μ71 eμ71 lμ71 fμ71 pμ71 qμ71 => ?_))
            · show jV _ _ jm_p_X10_readsComer _ 72 [some (.inr (.inr 94)), some (.inl x1_4)] [.inl 1] μ71
              have Fμ71 : jfm μ μ71 := jfm_tr Fμ66 fμ71
              have Tμ71 : jT μ71 (jm_u1 (jm_u1 (jm_u1 T (32 + T 1) (jkl (g a))) (38 + T 1) v33) (44 + T 1) v52) := fun j j0 j1 => by rw [gμ71]; exact Tμ66 j j0 j1
              refine jv_if_neT rfl rfl (by decide) ?_
              refine jv_aload_n rfl rfl rfl (by decide) ?_
              refine jv_getr (w := 95) rfl rfl rfl ⟨by decide, rfl⟩ rfl rfl ?_
              refine jv_sipush rfl rfl ?_
              refine jv_iload_n rfl rfl rfl ?_
              refine jv_iadd rfl rfl ⟨by omega, by omega⟩ ?_
              refine jv_aload_n rfl rfl rfl (by decide) ?_
              refine jv_geti rfl rfl rfl ⟨by decide, rfl⟩ (by decide) ?_
              rw [Nμ71]
              refine jv_iastore rfl rfl rfl (by decide) ⟨by omega, by omega⟩ (fun μ82 eμ82 => ?_)
              rw [show ((1724 + x1_4) : Int) = 1674 + (50 + T 1) by omega] at eμ82
              obtain ⟨Tμ82, fμ82, gμ82, hμ82⟩ := jT_st Tμ71 (show 0 ≤ 50 + T 1 by omega) eμ82
              have Rμ82 : jrm μ82 g N b71 := jrm_same Rμ71 (by rw [gμ82]) (by rw [gμ82]) hμ82
              have Fμ82 : jfm μ μ82 := jfm_tr Fμ71 fμ82
              try have Nμ82 : μ82 94 15 = v71 := by rw [gμ82]; exact Nμ71
              refine jv_aload_n rfl rfl rfl (by decide) ?_
              refine jv_getr (w := 95) rfl rfl rfl ⟨by decide, rfl⟩ rfl rfl ?_
              refine jv_sipush rfl rfl ?_
              refine jv_dup2 rfl rfl ?_
              refine jv_iaload rfl rfl (by decide) rfl ⟨by omega, by omega⟩ ?_
              rw [show μ82 95 1675 = (T 1) from (Tμ82 1 (by decide) (by decide)).trans (by unfold jm_u1; rw [if_neg (by omega), if_neg (by omega), if_neg (by omega), if_neg (by omega)])]
              refine jv_iconst rfl rfl ?_
              refine jv_iadd rfl rfl ⟨by omega, by omega⟩ ?_
              refine jv_iastore rfl rfl rfl (by decide) ⟨by omega, by omega⟩ (fun μ90 eμ90 => ?_)
              rw [show (1675 : Int) = 1674 + (1) by omega] at eμ90
              obtain ⟨Tμ90, fμ90, gμ90, hμ90⟩ := jT_st Tμ82 (show 0 ≤ 1 by omega) eμ90
              have Rμ90 : jrm μ90 g N b71 := jrm_same Rμ82 (by rw [gμ90]) (by rw [gμ90]) hμ90
              have Fμ90 : jfm μ μ90 := jfm_tr Fμ82 fμ90
              try have Nμ90 : μ90 94 15 = v71 := by rw [gμ90]; exact Nμ82
              refine jv_aload_n rfl rfl rfl (by decide) ?_
              refine jv_bipush rfl rfl ?_
              refine jv_callV1 rfl rfl rfl rfl ⟨by decide, rfl⟩ (Nat.le_of_ble_eq_true rfl) (mo_sign Rμ90 (fun μ93 eμ93 Rμ93 fμ93 gμ93 nμ93 => ?_) (fun μ93 eμ93 fμ93 pμ93 qμ93 => ?_))
              · show jV _ _ jm_p_X10_readsComer _ 94 [some (.inr (.inr 94)), some (.inl x1_4)] [.inl 1] μ93
                have Fμ93 : jfm μ μ93 := jfm_tr Fμ90 fμ93
                have Tμ93 : jT μ93 (jm_u1 (jm_u1 (jm_u1 (jm_u1 (jm_u1 T (32 + T 1) (jkl (g a))) (38 + T 1) v33) (44 + T 1) v52) (50 + T 1) v71) 1 ((T 1) + 1)) := fun j j0 j1 => by rw [gμ93]; exact Tμ90 j j0 j1
                refine jv_ireturn rfl (Or.inr ⟨rfl, by decide⟩) ?_
                exact k1 (b71 + 1) v33 v52 v71 μ93 (fun k => by
                  conv => lhs; unfold jpC
                  rw [if_pos ha, if_neg (by omega), jbd_ok eμ33, jbd_ok eμ47, jbd_ok eμ52, jbd_ok eμ66, jbd_ok eμ71, jbd_ok eμ93]) lμ33 lμ52 lμ71 Rμ93 Tμ93 Fμ93
              · show jV _ _ jm_p_X10_readsComer _ 94 [some (.inr (.inr 94)), some (.inl x1_4)] [.inl 0] μ93
                have Fμ93 : jfm μ μ93 := jfm_tr Fμ90 fμ93
                refine jv_ireturn rfl (Or.inr ⟨rfl, by decide⟩) ?_
                exact k0 1 b71 μ93 (fun k => by
                  conv => lhs; unfold jpC
                  rw [if_pos ha, if_neg (by omega), jbd_ok eμ33, jbd_ok eμ47, jbd_ok eμ52, jbd_ok eμ66, jbd_ok eμ71, jbd_no eμ93 (by decide)]) (by omega) Fμ93 pμ93 qμ93
            · show jV _ _ jm_p_X10_readsComer _ 72 [some (.inr (.inr 94)), some (.inl x1_4)] [.inl 0] μ71
              have Fμ71 : jfm μ μ71 := jfm_tr Fμ66 fμ71
              refine jv_if_neF rfl rfl (by decide) ?_
              refine jv_iconst rfl rfl ?_
              refine jv_ireturn rfl (Or.inr ⟨rfl, by decide⟩) ?_
              exact k0 w71 (b52 + 1) μ71 (fun k => by
                conv => lhs; unfold jpC
                rw [if_pos ha, if_neg (by omega), jbd_ok eμ33, jbd_ok eμ47, jbd_ok eμ52, jbd_ok eμ66, jbd_no eμ71 (by omega)]) (by omega) Fμ71 pμ71 qμ71
          · show jV _ _ jm_p_X10_readsComer _ 67 [some (.inr (.inr 94)), some (.inl x1_4)] [.inl 0] μ66
            have Fμ66 : jfm μ μ66 := jfm_tr Fμ63 fμ66
            refine jv_if_eqT rfl rfl (by decide) ?_
            refine jv_iconst rfl rfl ?_
            refine jv_ireturn rfl (Or.inr ⟨rfl, by decide⟩) ?_
            exact k0 1 b52 μ66 (fun k => by
              conv => lhs; unfold jpC
              rw [if_pos ha, if_neg (by omega), jbd_ok eμ33, jbd_ok eμ47, jbd_ok eμ52, jbd_no eμ66 (by decide)]) (by omega) Fμ66 pμ66 qμ66
        · show jV _ _ jm_p_X10_readsComer _ 53 [some (.inr (.inr 94)), some (.inl x1_4)] [.inl 0] μ52
          have Fμ52 : jfm μ μ52 := jfm_tr Fμ47 fμ52
          refine jv_if_neF rfl rfl (by decide) ?_
          refine jv_iconst rfl rfl ?_
          refine jv_ireturn rfl (Or.inr ⟨rfl, by decide⟩) ?_
          exact k0 w52 (b33 + 1) μ52 (fun k => by
            conv => lhs; unfold jpC
            rw [if_pos ha, if_neg (by omega), jbd_ok eμ33, jbd_ok eμ47, jbd_no eμ52 (by omega)]) (by omega) Fμ52 pμ52 qμ52
      · show jV _ _ jm_p_X10_readsComer _ 48 [some (.inr (.inr 94)), some (.inl x1_4)] [.inl 0] μ47
        have Fμ47 : jfm μ μ47 := jfm_tr Fμ44 fμ47
        refine jv_if_eqT rfl rfl (by decide) ?_
        refine jv_iconst rfl rfl ?_
        refine jv_ireturn rfl (Or.inr ⟨rfl, by decide⟩) ?_
        exact k0 1 b33 μ47 (fun k => by
          conv => lhs; unfold jpC
          rw [if_pos ha, if_neg (by omega), jbd_ok eμ33, jbd_no eμ47 (by decide)]) (by omega) Fμ47 pμ47 qμ47
    · show jV _ _ jm_p_X10_readsComer _ 34 [some (.inr (.inr 94)), some (.inl x1_4)] [.inl 0] μ33
      have Fμ33 : jfm μ μ33 := jfm_tr Fμ29 fμ33
      refine jv_if_neF rfl rfl (by decide) ?_
      refine jv_iconst rfl rfl ?_
      refine jv_ireturn rfl (Or.inr ⟨rfl, by decide⟩) ?_
      exact k0 w33 (a + 1) μ33 (fun k => by
        conv => lhs; unfold jpC
        rw [if_pos ha, if_neg (by omega), jbd_no eμ33 (by omega)]) (by omega) Fμ33 pμ33 qμ33
  · refine jv_aload_n rfl rfl rfl (by decide) ?_
    refine jv_iconst rfl rfl ?_
    refine jv_callV1 rfl rfl rfl rfl ⟨by decide, rfl⟩ (Nat.le_of_ble_eq_true rfl) (mo_refuse (fun μ10 eμ10 => ?_))
    show jV _ _ jm_p_X10_readsComer _ 11 [some (.inr (.inr 94)), some (.inl x1_4)] [.inl 0] μ10
    obtain ⟨fμ10, -, -⟩ := jfm_94 (Or.inr (Or.inl rfl)) eμ10
    have Fμ10 : jfm μ μ10 := jfm_tr Fμ fμ10
    have pμ10 : μ10 94 13 = a := by rw [eμ10]; exact Rμ.2.1
    have qμ10 : μ10 94 14 = 3 := by rw [eμ10]; rfl
    refine jv_ireturn rfl (Or.inr ⟨rfl, by decide⟩) ?_
    exact k0 3 a μ10 (fun k => by unfold jpC; rw [if_pos ha, if_pos (by omega)]) (by decide) Fμ10 pμ10 qμ10
