set_option maxRecDepth 10000 in
set_option maxHeartbeats 1000000 in
theorem cl_clear {X : jm_X} {d : Nat} {Q : jv_P} {μ : jm_M} (hi1 : ∀ m, 0 ≤ m → m < 4 → μ 25 m = 27 + 2 * m) (hi2 : ∀ c, 0 ≤ c → c < 6 → μ 26 c = 35 + c) (k : ∀ μ2 : jm_M, (∀ z, (z < 24 ∨ z = 25 ∨ z = 26 ∨ 40 < z) → μ2 z = μ z) → jdr μ2 jZ → Q [] μ2) : cV X (d + 2) 38 [.inr (.inr 24)] μ Q := by
  have Cμ : ∀ z, (z < 24 ∨ z = 25 ∨ z = 26 ∨ 40 < z) → μ z = μ z := fun _ _ => rfl
  refine jv_enter (d := d + 1) jm_p_X4_clear [some (.inr (.inr 24)), none] rfl rfl rfl (Nat.le_of_ble_eq_true rfl) rfl rfl ?_
  refine jv_aload_n rfl rfl rfl (by decide) ?_
  refine jv_iconst rfl rfl ?_
  refine jv_puti rfl rfl rfl ⟨by decide, rfl⟩ (Or.inl rfl) (fun μ2 eμ2 => ?_)
  have Cμ2 : ∀ z, (z < 24 ∨ z = 25 ∨ z = 26 ∨ 40 < z) → μ2 z = μ z := fun z q => (show μ2 z = μ z from by rw [eμ2, jm_off1 (by omega)]).trans (Cμ z q)
  have A0_μ2 : μ2 24 0 = 0 := by rw [eμ2]; rfl
  refine jv_aload_n rfl rfl rfl (by decide) ?_
  refine jv_iconst rfl rfl ?_
  refine jv_puti rfl rfl rfl ⟨by decide, rfl⟩ (Or.inl rfl) (fun μ5 eμ5 => ?_)
  have Cμ5 : ∀ z, (z < 24 ∨ z = 25 ∨ z = 26 ∨ 40 < z) → μ5 z = μ z := fun z q => (show μ5 z = μ2 z from by rw [eμ5, jm_off1 (by omega)]).trans (Cμ2 z q)
  have A0_μ5 : μ5 24 0 = 0 := by rw [eμ5]; exact A0_μ2
  have A1_μ5 : μ5 24 1 = 0 := by rw [eμ5]; rfl
  refine jv_aload_n rfl rfl rfl (by decide) ?_
  refine jv_iconst rfl rfl ?_
  refine jv_puti rfl rfl rfl ⟨by decide, rfl⟩ (Or.inl rfl) (fun μ8 eμ8 => ?_)
  have Cμ8 : ∀ z, (z < 24 ∨ z = 25 ∨ z = 26 ∨ 40 < z) → μ8 z = μ z := fun z q => (show μ8 z = μ5 z from by rw [eμ8, jm_off1 (by omega)]).trans (Cμ5 z q)
  have A0_μ8 : μ8 24 0 = 0 := by rw [eμ8]; exact A0_μ5
  have A1_μ8 : μ8 24 1 = 0 := by rw [eμ8]; exact A1_μ5
  have A2_μ8 : μ8 24 2 = 0 := by rw [eμ8]; rfl
  refine jv_aload_n rfl rfl rfl (by decide) ?_
  refine jv_iconst rfl rfl ?_
  refine jv_puti rfl rfl rfl ⟨by decide, rfl⟩ (Or.inl rfl) (fun μ11 eμ11 => ?_)
  have Cμ11 : ∀ z, (z < 24 ∨ z = 25 ∨ z = 26 ∨ 40 < z) → μ11 z = μ z := fun z q => (show μ11 z = μ8 z from by rw [eμ11, jm_off1 (by omega)]).trans (Cμ8 z q)
  have A0_μ11 : μ11 24 0 = 0 := by rw [eμ11]; exact A0_μ8
  have A1_μ11 : μ11 24 1 = 0 := by rw [eμ11]; exact A1_μ8
  have A2_μ11 : μ11 24 2 = 0 := by rw [eμ11]; exact A2_μ8
  have A3_μ11 : μ11 24 3 = 0 := by rw [eμ11]; rfl
  refine jv_iconst rfl rfl ?_
  refine jv_istore_nK (L2 := [some (.inr (.inr 24)), some (.inl 0)]) rfl rfl rfl ?_
  refine jv_iload_n rfl rfl rfl ?_
  refine jv_iconst rfl rfl ?_
  refine jv_icmp_geF rfl rfl (by decide) ?_
  refine jv_aload_n rfl rfl rfl (by decide) ?_
  refine jv_getr (w := 25) rfl rfl rfl ⟨by decide, rfl⟩ rfl rfl ?_
  refine jv_iload_n rfl rfl rfl ?_
  refine jv_aaloadv (v := 27) rfl rfl rfl ⟨by decide, by decide, by decide⟩ ⟨by decide, by decide⟩ (by rw [Cμ11 25 (by omega)]; exact hi1 0 (by decide) (by decide)) ?_
  refine jv_callV0 rfl rfl rfl rfl ⟨by decide, rfl⟩ (Nat.le_of_ble_eq_true rfl) (cl_empty (jz_mat_of (by decide)) (fun μ21 fμ21 zμ21 => ?_))
  show jV _ _ jm_p_X4_clear _ 22 [some (.inr (.inr 24)), some (.inl 0)] [] μ21
  have Cμ21 : ∀ z, (z < 24 ∨ z = 25 ∨ z = 26 ∨ 40 < z) → μ21 z = μ z := fun z q => (show μ21 z = μ11 z from fμ21 z (by omega)).trans (Cμ11 z q)
  have A0_μ21 : μ21 24 0 = 0 := by rw [fμ21 24 (by decide)]; exact A0_μ11
  have A1_μ21 : μ21 24 1 = 0 := by rw [fμ21 24 (by decide)]; exact A1_μ11
  have A2_μ21 : μ21 24 2 = 0 := by rw [fμ21 24 (by decide)]; exact A2_μ11
  have A3_μ21 : μ21 24 3 = 0 := by rw [fμ21 24 (by decide)]; exact A3_μ11
  have B0_μ21 : ∀ j, 0 ≤ j → j < 6 → μ21 28 j = 0 := zμ21
  refine jv_iincK (L2 := [some (.inr (.inr 24)), some (.inl 1)]) rfl rfl rfl (by decide) rfl ?_
  refine jv_goto rfl rfl ?_
  refine jv_iload_n rfl rfl rfl ?_
  refine jv_iconst rfl rfl ?_
  refine jv_icmp_geF rfl rfl (by decide) ?_
  refine jv_aload_n rfl rfl rfl (by decide) ?_
  refine jv_getr (w := 25) rfl rfl rfl ⟨by decide, rfl⟩ rfl rfl ?_
  refine jv_iload_n rfl rfl rfl ?_
  refine jv_aaloadv (v := 29) rfl rfl rfl ⟨by decide, by decide, by decide⟩ ⟨by decide, by decide⟩ (by rw [Cμ21 25 (by omega)]; exact hi1 1 (by decide) (by decide)) ?_
  refine jv_callV0 rfl rfl rfl rfl ⟨by decide, rfl⟩ (Nat.le_of_ble_eq_true rfl) (cl_empty (jz_mat_of (by decide)) (fun μ21_1 fμ21_1 zμ21_1 => ?_))
  show jV _ _ jm_p_X4_clear _ 22 [some (.inr (.inr 24)), some (.inl 1)] [] μ21_1
  have Cμ21_1 : ∀ z, (z < 24 ∨ z = 25 ∨ z = 26 ∨ 40 < z) → μ21_1 z = μ z := fun z q => (show μ21_1 z = μ21 z from fμ21_1 z (by omega)).trans (Cμ21 z q)
  have A0_μ21_1 : μ21_1 24 0 = 0 := by rw [fμ21_1 24 (by decide)]; exact A0_μ21
  have A1_μ21_1 : μ21_1 24 1 = 0 := by rw [fμ21_1 24 (by decide)]; exact A1_μ21
  have A2_μ21_1 : μ21_1 24 2 = 0 := by rw [fμ21_1 24 (by decide)]; exact A2_μ21
  have A3_μ21_1 : μ21_1 24 3 = 0 := by rw [fμ21_1 24 (by decide)]; exact A3_μ21
  have B0_μ21_1 : ∀ j, 0 ≤ j → j < 6 → μ21_1 28 j = 0 := fun j j0 j1 => by rw [fμ21_1 28 (by decide)]; exact B0_μ21 j j0 j1
  have B1_μ21_1 : ∀ j, 0 ≤ j → j < 6 → μ21_1 30 j = 0 := zμ21_1
  refine jv_iincK (L2 := [some (.inr (.inr 24)), some (.inl 2)]) rfl rfl rfl (by decide) rfl ?_
  refine jv_goto rfl rfl ?_
  refine jv_iload_n rfl rfl rfl ?_
  refine jv_iconst rfl rfl ?_
  refine jv_icmp_geF rfl rfl (by decide) ?_
  refine jv_aload_n rfl rfl rfl (by decide) ?_
  refine jv_getr (w := 25) rfl rfl rfl ⟨by decide, rfl⟩ rfl rfl ?_
  refine jv_iload_n rfl rfl rfl ?_
  refine jv_aaloadv (v := 31) rfl rfl rfl ⟨by decide, by decide, by decide⟩ ⟨by decide, by decide⟩ (by rw [Cμ21_1 25 (by omega)]; exact hi1 2 (by decide) (by decide)) ?_
  refine jv_callV0 rfl rfl rfl rfl ⟨by decide, rfl⟩ (Nat.le_of_ble_eq_true rfl) (cl_empty (jz_mat_of (by decide)) (fun μ21_2 fμ21_2 zμ21_2 => ?_))
  show jV _ _ jm_p_X4_clear _ 22 [some (.inr (.inr 24)), some (.inl 2)] [] μ21_2
  have Cμ21_2 : ∀ z, (z < 24 ∨ z = 25 ∨ z = 26 ∨ 40 < z) → μ21_2 z = μ z := fun z q => (show μ21_2 z = μ21_1 z from fμ21_2 z (by omega)).trans (Cμ21_1 z q)
  have A0_μ21_2 : μ21_2 24 0 = 0 := by rw [fμ21_2 24 (by decide)]; exact A0_μ21_1
  have A1_μ21_2 : μ21_2 24 1 = 0 := by rw [fμ21_2 24 (by decide)]; exact A1_μ21_1
  have A2_μ21_2 : μ21_2 24 2 = 0 := by rw [fμ21_2 24 (by decide)]; exact A2_μ21_1
  have A3_μ21_2 : μ21_2 24 3 = 0 := by rw [fμ21_2 24 (by decide)]; exact A3_μ21_1
  have B0_μ21_2 : ∀ j, 0 ≤ j → j < 6 → μ21_2 28 j = 0 := fun j j0 j1 => by rw [fμ21_2 28 (by decide)]; exact B0_μ21_1 j j0 j1
  have B1_μ21_2 : ∀ j, 0 ≤ j → j < 6 → μ21_2 30 j = 0 := fun j j0 j1 => by rw [fμ21_2 30 (by decide)]; exact B1_μ21_1 j j0 j1
  have B2_μ21_2 : ∀ j, 0 ≤ j → j < 6 → μ21_2 32 j = 0 := zμ21_2
  refine jv_iincK (L2 := [some (.inr (.inr 24)), some (.inl 3)]) rfl rfl rfl (by decide) rfl ?_
  refine jv_goto rfl rfl ?_
  refine jv_iload_n rfl rfl rfl ?_
  refine jv_iconst rfl rfl ?_
  refine jv_icmp_geF rfl rfl (by decide) ?_
  refine jv_aload_n rfl rfl rfl (by decide) ?_
  refine jv_getr (w := 25) rfl rfl rfl ⟨by decide, rfl⟩ rfl rfl ?_
  refine jv_iload_n rfl rfl rfl ?_
  refine jv_aaloadv (v := 33) rfl rfl rfl ⟨by decide, by decide, by decide⟩ ⟨by decide, by decide⟩ (by rw [Cμ21_2 25 (by omega)]; exact hi1 3 (by decide) (by decide)) ?_
  refine jv_callV0 rfl rfl rfl rfl ⟨by decide, rfl⟩ (Nat.le_of_ble_eq_true rfl) (cl_empty (jz_mat_of (by decide)) (fun μ21_3 fμ21_3 zμ21_3 => ?_))
  show jV _ _ jm_p_X4_clear _ 22 [some (.inr (.inr 24)), some (.inl 3)] [] μ21_3
  have Cμ21_3 : ∀ z, (z < 24 ∨ z = 25 ∨ z = 26 ∨ 40 < z) → μ21_3 z = μ z := fun z q => (show μ21_3 z = μ21_2 z from fμ21_3 z (by omega)).trans (Cμ21_2 z q)
  have A0_μ21_3 : μ21_3 24 0 = 0 := by rw [fμ21_3 24 (by decide)]; exact A0_μ21_2
  have A1_μ21_3 : μ21_3 24 1 = 0 := by rw [fμ21_3 24 (by decide)]; exact A1_μ21_2
  have A2_μ21_3 : μ21_3 24 2 = 0 := by rw [fμ21_3 24 (by decide)]; exact A2_μ21_2
  have A3_μ21_3 : μ21_3 24 3 = 0 := by rw [fμ21_3 24 (by decide)]; exact A3_μ21_2
  have B0_μ21_3 : ∀ j, 0 ≤ j → j < 6 → μ21_3 28 j = 0 := fun j j0 j1 => by rw [fμ21_3 28 (by decide)]; exact B0_μ21_2 j j0 j1
  have B1_μ21_3 : ∀ j, 0 ≤ j → j < 6 → μ21_3 30 j = 0 := fun j j0 j1 => by rw [fμ21_3 30 (by decide)]; exact B1_μ21_2 j j0 j1
  have B2_μ21_3 : ∀ j, 0 ≤ j → j < 6 → μ21_3 32 j = 0 := fun j j0 j1 => by rw [fμ21_3 32 (by decide)]; exact B2_μ21_2 j j0 j1
  have B3_μ21_3 : ∀ j, 0 ≤ j → j < 6 → μ21_3 34 j = 0 := zμ21_3
  refine jv_iincK (L2 := [some (.inr (.inr 24)), some (.inl 4)]) rfl rfl rfl (by decide) rfl ?_
  refine jv_goto rfl rfl ?_
  refine jv_iload_n rfl rfl rfl ?_
  refine jv_iconst rfl rfl ?_
  refine jv_icmp_geT rfl rfl (by decide) ?_
  refine jv_iconst rfl rfl ?_
  refine jv_istore_nK (L2 := [some (.inr (.inr 24)), some (.inl 0)]) rfl rfl rfl ?_
  refine jv_iload_n rfl rfl rfl ?_
  refine jv_bipush rfl rfl ?_
  refine jv_icmp_geF rfl rfl (by decide) ?_
  refine jv_aload_n rfl rfl rfl (by decide) ?_
  refine jv_getr (w := 26) rfl rfl rfl ⟨by decide, rfl⟩ rfl rfl ?_
  refine jv_iload_n rfl rfl rfl ?_
  refine jv_aaloadv (v := 35) rfl rfl rfl ⟨by decide, by decide, by decide⟩ ⟨by decide, by decide⟩ (by rw [Cμ21_3 26 (by omega)]; exact hi2 0 (by decide) (by decide)) ?_
  refine jv_iconst rfl rfl ?_
  refine jv_puti rfl rfl (jz_com_of (by decide)).1 ⟨by decide, rfl⟩ (Or.inl rfl) (fun μ34 eμ34 => ?_)
  have Cμ34 : ∀ z, (z < 24 ∨ z = 25 ∨ z = 26 ∨ 40 < z) → μ34 z = μ z := fun z q => (show μ34 z = μ21_3 z from by rw [eμ34, jm_off1 (by omega)]).trans (Cμ21_3 z q)
  have A0_μ34 : μ34 24 0 = 0 := by rw [eμ34, jm_off1 (by decide)]; exact A0_μ21_3
  have A1_μ34 : μ34 24 1 = 0 := by rw [eμ34, jm_off1 (by decide)]; exact A1_μ21_3
  have A2_μ34 : μ34 24 2 = 0 := by rw [eμ34, jm_off1 (by decide)]; exact A2_μ21_3
  have A3_μ34 : μ34 24 3 = 0 := by rw [eμ34, jm_off1 (by decide)]; exact A3_μ21_3
  have B0_μ34 : ∀ j, 0 ≤ j → j < 6 → μ34 28 j = 0 := fun j j0 j1 => by rw [eμ34, jm_off1 (by decide)]; exact B0_μ21_3 j j0 j1
  have B1_μ34 : ∀ j, 0 ≤ j → j < 6 → μ34 30 j = 0 := fun j j0 j1 => by rw [eμ34, jm_off1 (by decide)]; exact B1_μ21_3 j j0 j1
  have B2_μ34 : ∀ j, 0 ≤ j → j < 6 → μ34 32 j = 0 := fun j j0 j1 => by rw [eμ34, jm_off1 (by decide)]; exact B2_μ21_3 j j0 j1
  have B3_μ34 : ∀ j, 0 ≤ j → j < 6 → μ34 34 j = 0 := fun j j0 j1 => by rw [eμ34, jm_off1 (by decide)]; exact B3_μ21_3 j j0 j1
  have E0_μ34 : μ34 35 4 = 0 := by rw [eμ34, jm_uc_self]; rfl
  refine jv_iincK (L2 := [some (.inr (.inr 24)), some (.inl 1)]) rfl rfl rfl (by decide) rfl ?_
  refine jv_goto rfl rfl ?_
  refine jv_iload_n rfl rfl rfl ?_
  refine jv_bipush rfl rfl ?_
  refine jv_icmp_geF rfl rfl (by decide) ?_
  refine jv_aload_n rfl rfl rfl (by decide) ?_
  refine jv_getr (w := 26) rfl rfl rfl ⟨by decide, rfl⟩ rfl rfl ?_
  refine jv_iload_n rfl rfl rfl ?_
  refine jv_aaloadv (v := 36) rfl rfl rfl ⟨by decide, by decide, by decide⟩ ⟨by decide, by decide⟩ (by rw [Cμ34 26 (by omega)]; exact hi2 1 (by decide) (by decide)) ?_
  refine jv_iconst rfl rfl ?_
  refine jv_puti rfl rfl (jz_com_of (by decide)).1 ⟨by decide, rfl⟩ (Or.inl rfl) (fun μ34_1 eμ34_1 => ?_)
  have Cμ34_1 : ∀ z, (z < 24 ∨ z = 25 ∨ z = 26 ∨ 40 < z) → μ34_1 z = μ z := fun z q => (show μ34_1 z = μ34 z from by rw [eμ34_1, jm_off1 (by omega)]).trans (Cμ34 z q)
  have A0_μ34_1 : μ34_1 24 0 = 0 := by rw [eμ34_1, jm_off1 (by decide)]; exact A0_μ34
  have A1_μ34_1 : μ34_1 24 1 = 0 := by rw [eμ34_1, jm_off1 (by decide)]; exact A1_μ34
  have A2_μ34_1 : μ34_1 24 2 = 0 := by rw [eμ34_1, jm_off1 (by decide)]; exact A2_μ34
  have A3_μ34_1 : μ34_1 24 3 = 0 := by rw [eμ34_1, jm_off1 (by decide)]; exact A3_μ34
  have B0_μ34_1 : ∀ j, 0 ≤ j → j < 6 → μ34_1 28 j = 0 := fun j j0 j1 => by rw [eμ34_1, jm_off1 (by decide)]; exact B0_μ34 j j0 j1
  have B1_μ34_1 : ∀ j, 0 ≤ j → j < 6 → μ34_1 30 j = 0 := fun j j0 j1 => by rw [eμ34_1, jm_off1 (by decide)]; exact B1_μ34 j j0 j1
  have B2_μ34_1 : ∀ j, 0 ≤ j → j < 6 → μ34_1 32 j = 0 := fun j j0 j1 => by rw [eμ34_1, jm_off1 (by decide)]; exact B2_μ34 j j0 j1
  have B3_μ34_1 : ∀ j, 0 ≤ j → j < 6 → μ34_1 34 j = 0 := fun j j0 j1 => by rw [eμ34_1, jm_off1 (by decide)]; exact B3_μ34 j j0 j1
  have E0_μ34_1 : μ34_1 35 4 = 0 := by rw [eμ34_1, jm_off1 (by decide)]; exact E0_μ34
  have E1_μ34_1 : μ34_1 36 4 = 0 := by rw [eμ34_1, jm_uc_self]; rfl
  refine jv_iincK (L2 := [some (.inr (.inr 24)), some (.inl 2)]) rfl rfl rfl (by decide) rfl ?_
  refine jv_goto rfl rfl ?_
  refine jv_iload_n rfl rfl rfl ?_
  refine jv_bipush rfl rfl ?_
  refine jv_icmp_geF rfl rfl (by decide) ?_
  refine jv_aload_n rfl rfl rfl (by decide) ?_
  refine jv_getr (w := 26) rfl rfl rfl ⟨by decide, rfl⟩ rfl rfl ?_
  refine jv_iload_n rfl rfl rfl ?_
  refine jv_aaloadv (v := 37) rfl rfl rfl ⟨by decide, by decide, by decide⟩ ⟨by decide, by decide⟩ (by rw [Cμ34_1 26 (by omega)]; exact hi2 2 (by decide) (by decide)) ?_
  refine jv_iconst rfl rfl ?_
  refine jv_puti rfl rfl (jz_com_of (by decide)).1 ⟨by decide, rfl⟩ (Or.inl rfl) (fun μ34_2 eμ34_2 => ?_)
  have Cμ34_2 : ∀ z, (z < 24 ∨ z = 25 ∨ z = 26 ∨ 40 < z) → μ34_2 z = μ z := fun z q => (show μ34_2 z = μ34_1 z from by rw [eμ34_2, jm_off1 (by omega)]).trans (Cμ34_1 z q)
  have A0_μ34_2 : μ34_2 24 0 = 0 := by rw [eμ34_2, jm_off1 (by decide)]; exact A0_μ34_1
  have A1_μ34_2 : μ34_2 24 1 = 0 := by rw [eμ34_2, jm_off1 (by decide)]; exact A1_μ34_1
  have A2_μ34_2 : μ34_2 24 2 = 0 := by rw [eμ34_2, jm_off1 (by decide)]; exact A2_μ34_1
  have A3_μ34_2 : μ34_2 24 3 = 0 := by rw [eμ34_2, jm_off1 (by decide)]; exact A3_μ34_1
  have B0_μ34_2 : ∀ j, 0 ≤ j → j < 6 → μ34_2 28 j = 0 := fun j j0 j1 => by rw [eμ34_2, jm_off1 (by decide)]; exact B0_μ34_1 j j0 j1
  have B1_μ34_2 : ∀ j, 0 ≤ j → j < 6 → μ34_2 30 j = 0 := fun j j0 j1 => by rw [eμ34_2, jm_off1 (by decide)]; exact B1_μ34_1 j j0 j1
  have B2_μ34_2 : ∀ j, 0 ≤ j → j < 6 → μ34_2 32 j = 0 := fun j j0 j1 => by rw [eμ34_2, jm_off1 (by decide)]; exact B2_μ34_1 j j0 j1
  have B3_μ34_2 : ∀ j, 0 ≤ j → j < 6 → μ34_2 34 j = 0 := fun j j0 j1 => by rw [eμ34_2, jm_off1 (by decide)]; exact B3_μ34_1 j j0 j1
  have E0_μ34_2 : μ34_2 35 4 = 0 := by rw [eμ34_2, jm_off1 (by decide)]; exact E0_μ34_1
  have E1_μ34_2 : μ34_2 36 4 = 0 := by rw [eμ34_2, jm_off1 (by decide)]; exact E1_μ34_1
  have E2_μ34_2 : μ34_2 37 4 = 0 := by rw [eμ34_2, jm_uc_self]; rfl
  refine jv_iincK (L2 := [some (.inr (.inr 24)), some (.inl 3)]) rfl rfl rfl (by decide) rfl ?_
  refine jv_goto rfl rfl ?_
  refine jv_iload_n rfl rfl rfl ?_
  refine jv_bipush rfl rfl ?_
  refine jv_icmp_geF rfl rfl (by decide) ?_
  refine jv_aload_n rfl rfl rfl (by decide) ?_
  refine jv_getr (w := 26) rfl rfl rfl ⟨by decide, rfl⟩ rfl rfl ?_
  refine jv_iload_n rfl rfl rfl ?_
  refine jv_aaloadv (v := 38) rfl rfl rfl ⟨by decide, by decide, by decide⟩ ⟨by decide, by decide⟩ (by rw [Cμ34_2 26 (by omega)]; exact hi2 3 (by decide) (by decide)) ?_
  refine jv_iconst rfl rfl ?_
  refine jv_puti rfl rfl (jz_com_of (by decide)).1 ⟨by decide, rfl⟩ (Or.inl rfl) (fun μ34_3 eμ34_3 => ?_)
  have Cμ34_3 : ∀ z, (z < 24 ∨ z = 25 ∨ z = 26 ∨ 40 < z) → μ34_3 z = μ z := fun z q => (show μ34_3 z = μ34_2 z from by rw [eμ34_3, jm_off1 (by omega)]).trans (Cμ34_2 z q)
  have A0_μ34_3 : μ34_3 24 0 = 0 := by rw [eμ34_3, jm_off1 (by decide)]; exact A0_μ34_2
  have A1_μ34_3 : μ34_3 24 1 = 0 := by rw [eμ34_3, jm_off1 (by decide)]; exact A1_μ34_2
  have A2_μ34_3 : μ34_3 24 2 = 0 := by rw [eμ34_3, jm_off1 (by decide)]; exact A2_μ34_2
  have A3_μ34_3 : μ34_3 24 3 = 0 := by rw [eμ34_3, jm_off1 (by decide)]; exact A3_μ34_2
  have B0_μ34_3 : ∀ j, 0 ≤ j → j < 6 → μ34_3 28 j = 0 := fun j j0 j1 => by rw [eμ34_3, jm_off1 (by decide)]; exact B0_μ34_2 j j0 j1
  have B1_μ34_3 : ∀ j, 0 ≤ j → j < 6 → μ34_3 30 j = 0 := fun j j0 j1 => by rw [eμ34_3, jm_off1 (by decide)]; exact B1_μ34_2 j j0 j1
  have B2_μ34_3 : ∀ j, 0 ≤ j → j < 6 → μ34_3 32 j = 0 := fun j j0 j1 => by rw [eμ34_3, jm_off1 (by decide)]; exact B2_μ34_2 j j0 j1
  have B3_μ34_3 : ∀ j, 0 ≤ j → j < 6 → μ34_3 34 j = 0 := fun j j0 j1 => by rw [eμ34_3, jm_off1 (by decide)]; exact B3_μ34_2 j j0 j1
  have E0_μ34_3 : μ34_3 35 4 = 0 := by rw [eμ34_3, jm_off1 (by decide)]; exact E0_μ34_2
  have E1_μ34_3 : μ34_3 36 4 = 0 := by rw [eμ34_3, jm_off1 (by decide)]; exact E1_μ34_2
  have E2_μ34_3 : μ34_3 37 4 = 0 := by rw [eμ34_3, jm_off1 (by decide)]; exact E2_μ34_2
  have E3_μ34_3 : μ34_3 38 4 = 0 := by rw [eμ34_3, jm_uc_self]; rfl
  refine jv_iincK (L2 := [some (.inr (.inr 24)), some (.inl 4)]) rfl rfl rfl (by decide) rfl ?_
  refine jv_goto rfl rfl ?_
  refine jv_iload_n rfl rfl rfl ?_
  refine jv_bipush rfl rfl ?_
  refine jv_icmp_geF rfl rfl (by decide) ?_
  refine jv_aload_n rfl rfl rfl (by decide) ?_
  refine jv_getr (w := 26) rfl rfl rfl ⟨by decide, rfl⟩ rfl rfl ?_
  refine jv_iload_n rfl rfl rfl ?_
  refine jv_aaloadv (v := 39) rfl rfl rfl ⟨by decide, by decide, by decide⟩ ⟨by decide, by decide⟩ (by rw [Cμ34_3 26 (by omega)]; exact hi2 4 (by decide) (by decide)) ?_
  refine jv_iconst rfl rfl ?_
  refine jv_puti rfl rfl (jz_com_of (by decide)).1 ⟨by decide, rfl⟩ (Or.inl rfl) (fun μ34_4 eμ34_4 => ?_)
  have Cμ34_4 : ∀ z, (z < 24 ∨ z = 25 ∨ z = 26 ∨ 40 < z) → μ34_4 z = μ z := fun z q => (show μ34_4 z = μ34_3 z from by rw [eμ34_4, jm_off1 (by omega)]).trans (Cμ34_3 z q)
  have A0_μ34_4 : μ34_4 24 0 = 0 := by rw [eμ34_4, jm_off1 (by decide)]; exact A0_μ34_3
  have A1_μ34_4 : μ34_4 24 1 = 0 := by rw [eμ34_4, jm_off1 (by decide)]; exact A1_μ34_3
  have A2_μ34_4 : μ34_4 24 2 = 0 := by rw [eμ34_4, jm_off1 (by decide)]; exact A2_μ34_3
  have A3_μ34_4 : μ34_4 24 3 = 0 := by rw [eμ34_4, jm_off1 (by decide)]; exact A3_μ34_3
  have B0_μ34_4 : ∀ j, 0 ≤ j → j < 6 → μ34_4 28 j = 0 := fun j j0 j1 => by rw [eμ34_4, jm_off1 (by decide)]; exact B0_μ34_3 j j0 j1
  have B1_μ34_4 : ∀ j, 0 ≤ j → j < 6 → μ34_4 30 j = 0 := fun j j0 j1 => by rw [eμ34_4, jm_off1 (by decide)]; exact B1_μ34_3 j j0 j1
  have B2_μ34_4 : ∀ j, 0 ≤ j → j < 6 → μ34_4 32 j = 0 := fun j j0 j1 => by rw [eμ34_4, jm_off1 (by decide)]; exact B2_μ34_3 j j0 j1
  have B3_μ34_4 : ∀ j, 0 ≤ j → j < 6 → μ34_4 34 j = 0 := fun j j0 j1 => by rw [eμ34_4, jm_off1 (by decide)]; exact B3_μ34_3 j j0 j1
  have E0_μ34_4 : μ34_4 35 4 = 0 := by rw [eμ34_4, jm_off1 (by decide)]; exact E0_μ34_3
  have E1_μ34_4 : μ34_4 36 4 = 0 := by rw [eμ34_4, jm_off1 (by decide)]; exact E1_μ34_3
  have E2_μ34_4 : μ34_4 37 4 = 0 := by rw [eμ34_4, jm_off1 (by decide)]; exact E2_μ34_3
  have E3_μ34_4 : μ34_4 38 4 = 0 := by rw [eμ34_4, jm_off1 (by decide)]; exact E3_μ34_3
  have E4_μ34_4 : μ34_4 39 4 = 0 := by rw [eμ34_4, jm_uc_self]; rfl
  refine jv_iincK (L2 := [some (.inr (.inr 24)), some (.inl 5)]) rfl rfl rfl (by decide) rfl ?_
  refine jv_goto rfl rfl ?_
  refine jv_iload_n rfl rfl rfl ?_
  refine jv_bipush rfl rfl ?_
  refine jv_icmp_geF rfl rfl (by decide) ?_
  refine jv_aload_n rfl rfl rfl (by decide) ?_
  refine jv_getr (w := 26) rfl rfl rfl ⟨by decide, rfl⟩ rfl rfl ?_
  refine jv_iload_n rfl rfl rfl ?_
  refine jv_aaloadv (v := 40) rfl rfl rfl ⟨by decide, by decide, by decide⟩ ⟨by decide, by decide⟩ (by rw [Cμ34_4 26 (by omega)]; exact hi2 5 (by decide) (by decide)) ?_
  refine jv_iconst rfl rfl ?_
  refine jv_puti rfl rfl (jz_com_of (by decide)).1 ⟨by decide, rfl⟩ (Or.inl rfl) (fun μ34_5 eμ34_5 => ?_)
  have Cμ34_5 : ∀ z, (z < 24 ∨ z = 25 ∨ z = 26 ∨ 40 < z) → μ34_5 z = μ z := fun z q => (show μ34_5 z = μ34_4 z from by rw [eμ34_5, jm_off1 (by omega)]).trans (Cμ34_4 z q)
  have A0_μ34_5 : μ34_5 24 0 = 0 := by rw [eμ34_5, jm_off1 (by decide)]; exact A0_μ34_4
  have A1_μ34_5 : μ34_5 24 1 = 0 := by rw [eμ34_5, jm_off1 (by decide)]; exact A1_μ34_4
  have A2_μ34_5 : μ34_5 24 2 = 0 := by rw [eμ34_5, jm_off1 (by decide)]; exact A2_μ34_4
  have A3_μ34_5 : μ34_5 24 3 = 0 := by rw [eμ34_5, jm_off1 (by decide)]; exact A3_μ34_4
  have B0_μ34_5 : ∀ j, 0 ≤ j → j < 6 → μ34_5 28 j = 0 := fun j j0 j1 => by rw [eμ34_5, jm_off1 (by decide)]; exact B0_μ34_4 j j0 j1
  have B1_μ34_5 : ∀ j, 0 ≤ j → j < 6 → μ34_5 30 j = 0 := fun j j0 j1 => by rw [eμ34_5, jm_off1 (by decide)]; exact B1_μ34_4 j j0 j1
  have B2_μ34_5 : ∀ j, 0 ≤ j → j < 6 → μ34_5 32 j = 0 := fun j j0 j1 => by rw [eμ34_5, jm_off1 (by decide)]; exact B2_μ34_4 j j0 j1
  have B3_μ34_5 : ∀ j, 0 ≤ j → j < 6 → μ34_5 34 j = 0 := fun j j0 j1 => by rw [eμ34_5, jm_off1 (by decide)]; exact B3_μ34_4 j j0 j1
  have E0_μ34_5 : μ34_5 35 4 = 0 := by rw [eμ34_5, jm_off1 (by decide)]; exact E0_μ34_4
  have E1_μ34_5 : μ34_5 36 4 = 0 := by rw [eμ34_5, jm_off1 (by decide)]; exact E1_μ34_4
  have E2_μ34_5 : μ34_5 37 4 = 0 := by rw [eμ34_5, jm_off1 (by decide)]; exact E2_μ34_4
  have E3_μ34_5 : μ34_5 38 4 = 0 := by rw [eμ34_5, jm_off1 (by decide)]; exact E3_μ34_4
  have E4_μ34_5 : μ34_5 39 4 = 0 := by rw [eμ34_5, jm_off1 (by decide)]; exact E4_μ34_4
  have E5_μ34_5 : μ34_5 40 4 = 0 := by rw [eμ34_5, jm_uc_self]; rfl
  refine jv_iincK (L2 := [some (.inr (.inr 24)), some (.inl 6)]) rfl rfl rfl (by decide) rfl ?_
  refine jv_goto rfl rfl ?_
  refine jv_iload_n rfl rfl rfl ?_
  refine jv_bipush rfl rfl ?_
  refine jv_icmp_geT rfl rfl (by decide) ?_
  refine jv_return rfl ?_
  refine k _ Cμ34_5 ⟨⟨A0_μ34_5, A1_μ34_5, A2_μ34_5, A3_μ34_5⟩, fun m m0 m1 => ?_, fun m m0 m1 j j0 j1 => ?_, fun c c0 c1 => ?_, fun c c0 c1 => ?_⟩
  · exfalso
    have m1 : m < 0 := m1
    omega
  · rcases (show m = 0 ∨ m = 1 ∨ m = 2 ∨ m = 3 by omega) with rfl | rfl | rfl | rfl
    · exact B0_μ34_5 j j0 j1
    · exact B1_μ34_5 j j0 j1
    · exact B2_μ34_5 j j0 j1
    · exact B3_μ34_5 j j0 j1
  · exfalso
    have c1 : c < 0 := c1
    omega
  · rcases (show c = 0 ∨ c = 1 ∨ c = 2 ∨ c = 3 ∨ c = 4 ∨ c = 5 by omega) with rfl | rfl | rfl | rfl | rfl | rfl
    · exact E0_μ34_5
    · exact E1_μ34_5
    · exact E2_μ34_5
    · exact E3_μ34_5
    · exact E4_μ34_5
    · exact E5_μ34_5
theorem jpM_1 {g : Int → Int} {N : Int} : ∀ (k : Nat) (a : Int) (T : Int → Int) (a' : Int) (T' : Int → Int), 0 ≤ T 0 → jpM g N k a T = (0, a', T') → T' 1 = T 1
  | 0, a, T, a', T', _, h => by
    have e : T = T' := congrArg (fun q => q.2.2) h
    rw [e]
  | k + 1, a, T, a', T', h0, h => by
    unfold jpM at h
    split at h
    · split at h
      · have e : (3 : Int) = 0 := congrArg Prod.fst h
        omega
      · unfold jbd at h
        split at h
        · dsimp only at h
          split at h
          · have i := jpM_1 k _ _ a' T' (by
              show 0 ≤ jm_u1 (jm_u1 T (4 + T 0) _) 0 (T 0 + 1) 0
              unfold jm_u1
              rw [if_pos rfl]
              omega) h
            rw [i]
            unfold jm_u1
            rw [if_neg (by decide), if_neg (by omega)]
          · rename_i z
            exact absurd (congrArg Prod.fst h) z
        · rename_i z
          exact absurd (congrArg Prod.fst h) z
    · have e : T = T' := congrArg (fun q => q.2.2) h
      rw [e]
theorem jpA_no {g : Int → Int} {N w a : Int} (h : jpL g N = (w, a, jZ)) (hw : w ≠ 0) : jpA g N = (w, a, jZ) := jbR_no h hw
theorem jpA_m {g : Int → Int} {N a a' : Int} {T T' : Int → Int} (h : jpL g N = (0, a, T)) (hb : (if a < N ∧ g a = 109 then jpM g N 5 a T else (1, a, jZ)) = (0, a', T')) : jpA g N = jpC g N 7 a' T' ∧ jpM g N 5 a T = (0, a', T') := by
  unfold jpA
  rw [jbR_ok h]
  by_cases ha : a < N ∧ g a = 109
  · rw [if_pos ha] at hb ⊢
    exact ⟨jbR_ok hb, hb⟩
  · rw [if_neg ha] at hb
    have e : (1 : Int) = 0 := congrArg Prod.fst hb
    omega
theorem jpA_mn {g : Int → Int} {N a a' w : Int} {T : Int → Int} (h : jpL g N = (0, a, T)) (hb : (if a < N ∧ g a = 109 then jpM g N 5 a T else (1, a, jZ)) = (w, a', jZ)) (hw : w ≠ 0) : jpA g N = (w, a', jZ) := by
  unfold jpA
  rw [jbR_ok h]
  by_cases ha : a < N ∧ g a = 109
  · rw [if_pos ha] at hb ⊢
    exact jbR_no hb hw
  · rw [if_neg ha] at hb ⊢
    exact hb
theorem jdr_off {μ μ2 : jm_M} {T : Int → Int} (e : ∀ z, z ≠ 5 → μ2 z = μ z) (h : jdr μ T) : jdr μ2 T := by
  obtain ⟨a, b, c, d, f⟩ := h
  refine ⟨by rw [e 24 (by decide)]; exact a, fun m m0 m1 => by rw [e _ (by omega)]; exact b m m0 m1, fun m m0 m1 => by rw [e (28 + 2 * m) (by omega)]; exact c m m0 m1, fun x x0 x1 => by rw [e _ (by omega)]; exact d x x0 x1, fun x x0 x1 => by rw [e _ (by omega)]; exact f x x0 x1⟩
theorem cl_readCm {X : jm_X} {d : Nat} {Q : jv_P} {μ : jm_M} {g : Int → Int} {N a : Int} {T : Int → Int} {B : jR} (hid : ∀ c, 0 ≤ c → c < 6 → μ 26 c = 35 + c) (k1 : ∀ a T μ2, B = (0, a, T) → jtv T → 1 ≤ T 0 → jrd μ2 g N a → μ2 5 3 = 0 → jdr μ2 T → jfr μ μ2 → Q [.inl 1] μ2) (k0 : ∀ w a μ2, B = (w, a, jZ) → w ≠ 0 → jbad μ μ2 N a w → Q [.inl 0] μ2) (h1 : T 1 = 0) (ht : jtv T) (h0 : 1 ≤ T 0) (Rμ : jrd μ g N a) (Wμ : μ 5 3 = 0) (hd : jdr μ T) (hB : jpC g N 7 a T = B) : cV X (d + 4) 64 [.inr (.inr 5), .inr (.inr 24)] μ Q := by
  refine jv_enter (d := d + 3) jm_p_X6_readComers [some (.inr (.inr 5)), some (.inr (.inr 24)), none, none] rfl rfl rfl (Nat.le_of_ble_eq_true rfl) rfl rfl ?_
  exact cl_readCm_l hid k1 k0 6 a T none none μ (by omega) ht h0 Rμ Wμ hd (fun _ _ => rfl) hB
set_option maxRecDepth 10000 in
theorem cl_readInto {X : jm_X} {d : Nat} {Q : jv_P} {μ : jm_M} {g : Int → Int} {N : Int} (hi1 : ∀ m, 0 ≤ m → m < 4 → μ 25 m = 27 + 2 * m) (hi2 : ∀ c, 0 ≤ c → c < 6 → μ 26 c = 35 + c) (hN : μ 5 1 = N) (hN6 : 0 ≤ N ∧ N ≤ 100) (hg : ∀ j, 0 ≤ j → j < N → μ 6 j = g j ∧ 0 ≤ g j ∧ g j ≤ 255) (k1 : ∀ a T μ2, jpA g N = (0, a, T) → jtv T → 1 ≤ T 0 → jdr μ2 T → jfr μ μ2 → μ2 5 1 = 0 → Q [.inl 0] μ2) (k0 : ∀ w a μ2, jpA g N = (w, a, jZ) → w ≠ 0 → μ2 5 2 = a → jfr μ μ2 → μ2 5 1 = 0 → Q [.inl w] μ2) : cV X (d + 5) 61 [.inr (.inr 5), .inr (.inr 24)] μ Q := by
  refine jv_enter (d := d + 4) jm_p_X6_readInto [some (.inr (.inr 5)), some (.inr (.inr 24))] rfl rfl rfl (Nat.le_of_ble_eq_true rfl) rfl rfl ?_
  refine jv_aload_n rfl rfl rfl (by decide) ?_
  refine jv_iconst rfl rfl ?_
  refine jv_puti rfl rfl rfl ⟨by decide, rfl⟩ (Or.inl rfl) (fun μ2 eμ2 => ?_)
  refine jv_aload_n rfl rfl rfl (by decide) ?_
  refine jv_iconst rfl rfl ?_
  refine jv_puti rfl rfl rfl ⟨by decide, rfl⟩ (Or.inl rfl) (fun μ5 eμ5 => ?_)
  refine jv_aload_n rfl rfl rfl (by decide) ?_
  have c5 : ∀ z, z ≠ 5 → μ5 z = μ z := fun z q => by rw [eμ5, jm_off1 q, eμ2, jm_off1 q]
  refine jv_callV0 rfl rfl rfl rfl ⟨by decide, rfl⟩ (Nat.le_of_ble_eq_true rfl) (cl_clear (fun m q0 q1 => by rw [c5 25 (by decide)]; exact hi1 m q0 q1) (fun c q0 q1 => by rw [c5 26 (by decide)]; exact hi2 c q0 q1) (fun μ7 cμ7 dμ7 => ?_))
  show jV _ _ jm_p_X6_readInto _ 8 [some (.inr (.inr 5)), some (.inr (.inr 24))] [] μ7
  have q5 : μ7 5 = jm_u1 (jm_u1 (μ 5) 2 0) 3 0 := by rw [cμ7 5 (by omega), eμ5, jm_uc_self, eμ2, jm_uc_self]
  have R0 : jrd μ7 g N 0 := ⟨by rw [q5]; exact hN, by rw [q5]; rfl, by omega, fun j j0 j1 => by rw [cμ7 6 (by omega), c5 6 (by decide)]; exact hg j j0 j1⟩
  have W0 : μ7 5 3 = 0 := by rw [q5]; rfl
  have F0 : jfr μ μ7 := fun z q => by rw [cμ7 z (by omega), c5 z q.1]
  have I1 : ∀ m, 0 ≤ m → m < 4 → μ7 25 m = 27 + 2 * m := fun m q0 q1 => by rw [F0 25 (by omega)]; exact hi1 m q0 q1
  refine jv_aload_n rfl rfl rfl (by decide) ?_
  refine jv_aload_n rfl rfl rfl (by decide) ?_
  refine jv_callV1 rfl rfl rfl rfl ⟨by decide, rfl⟩ (Nat.le_of_ble_eq_true rfl) (cl_readLaw R0 W0 dμ7 (fun a10 l10 b10 μ10 e10 ll lb R10 W10 D10 F10 => ?_) (fun w10 a10 μ10 e10 hw10 B10 => ?_))
  · show jV _ _ jm_p_X6_readInto _ 11 [some (.inr (.inr 5)), some (.inr (.inr 24))] [.inl 1] μ10
    refine jv_if_eqF rfl rfl (by decide) ?_
    refine jv_aload_n rfl rfl rfl (by decide) ?_
    refine jv_aload_n rfl rfl rfl (by decide) ?_
    have T10 := jtv_law ll lb
    refine jv_callV1 rfl rfl rfl rfl ⟨by decide, rfl⟩ (Nat.le_of_ble_eq_true rfl) (cl_readM (a := a10) (T := jm_u1 (jm_u1 jZ 2 l10) 3 b10) (fun m q0 q1 => by rw [F10 25 (by omega)]; exact I1 m q0 q1) (fun a14 T14 μ14 e14 t14 n14 R14 W14 D14 F14 => ?_) (fun w14 a14 μ14 e14 hw14 B14 => ?_) rfl T10 R10 W10 D10 rfl)
    · show jV _ _ jm_p_X6_readInto _ 15 [some (.inr (.inr 5)), some (.inr (.inr 24))] [.inl 1] μ14
      refine jv_if_eqF rfl rfl (by decide) ?_
      refine jv_aload_n rfl rfl rfl (by decide) ?_
      refine jv_aload_n rfl rfl rfl (by decide) ?_
      obtain ⟨ea, em⟩ := jpA_m e10 e14
      have h1 : T14 1 = 0 := jpM_1 5 _ _ _ _ (show (0 : Int) ≤ 0 by decide) em
      refine jv_callV1 rfl rfl rfl rfl ⟨by decide, rfl⟩ (Nat.le_of_ble_eq_true rfl) (cl_readCm (T := T14) (fun c q0 q1 => by rw [F14 26 (by omega), F10 26 (by omega), F0 26 (by omega)]; exact hi2 c q0 q1) (fun a18 T18 μ18 e18 t18 n18 R18 W18 D18 F18 => ?_) (fun w18 a18 μ18 e18 hw18 B18 => ?_) h1 t14 n14 R14 W14 D14 rfl)
      · show jV _ _ jm_p_X6_readInto _ 19 [some (.inr (.inr 5)), some (.inr (.inr 24))] [.inl 1] μ18
        refine jv_pop rfl rfl ?_
        refine jv_aload_n rfl rfl rfl (by decide) ?_
        refine jv_iconst rfl rfl ?_
        refine jv_puti rfl rfl rfl ⟨by decide, rfl⟩ (Or.inl rfl) (fun μ22 eμ22 => ?_)
        refine jv_aload_n rfl rfl rfl (by decide) ?_
        refine jv_geti rfl rfl rfl ⟨by decide, rfl⟩ (by decide) ?_
        refine jv_ireturn rfl (Or.inl rfl) ?_
        have e53 : μ22 5 3 = μ18 5 3 := by rw [eμ22]; rfl
        have e52 : μ22 5 2 = μ18 5 2 := by rw [eμ22]; rfl
        have e51 : μ22 5 1 = 0 := by rw [eμ22]; rfl
        rw [e53, W18]
        exact k1 a18 T18 μ22 (by rw [ea, e18]) t18 n18 (jdr_off (fun z q => by rw [eμ22, jm_off1 q]) D18) (fun z q => by rw [eμ22, jm_off1 q.1, F18 z q, F14 z q, F10 z q]; exact F0 z q) e51
      · show jV _ _ jm_p_X6_readInto _ 19 [some (.inr (.inr 5)), some (.inr (.inr 24))] [.inl 0] μ18
        refine jv_pop rfl rfl ?_
        refine jv_aload_n rfl rfl rfl (by decide) ?_
        refine jv_iconst rfl rfl ?_
        refine jv_puti rfl rfl rfl ⟨by decide, rfl⟩ (Or.inl rfl) (fun μ22_1 eμ22_1 => ?_)
        refine jv_aload_n rfl rfl rfl (by decide) ?_
        refine jv_geti rfl rfl rfl ⟨by decide, rfl⟩ (by decide) ?_
        refine jv_ireturn rfl (Or.inl rfl) ?_
        have e53 : μ22_1 5 3 = μ18 5 3 := by rw [eμ22_1]; rfl
        have e52 : μ22_1 5 2 = μ18 5 2 := by rw [eμ22_1]; rfl
        have e51 : μ22_1 5 1 = 0 := by rw [eμ22_1]; rfl
        rw [e53, B18.2.2.2]
        exact k0 w18 a18 μ22_1 (by rw [ea, e18]) hw18 (by rw [e52]; exact B18.2.2.1) (fun z q => by rw [eμ22_1, jm_off1 q.1, B18.1 z q, F14 z q, F10 z q]; exact F0 z q) e51
    · show jV _ _ jm_p_X6_readInto _ 15 [some (.inr (.inr 5)), some (.inr (.inr 24))] [.inl 0] μ14
      refine jv_if_eqT rfl rfl (by decide) ?_
      refine jv_aload_n rfl rfl rfl (by decide) ?_
      refine jv_iconst rfl rfl ?_
      refine jv_puti rfl rfl rfl ⟨by decide, rfl⟩ (Or.inl rfl) (fun μ22_2 eμ22_2 => ?_)
      refine jv_aload_n rfl rfl rfl (by decide) ?_
      refine jv_geti rfl rfl rfl ⟨by decide, rfl⟩ (by decide) ?_
      refine jv_ireturn rfl (Or.inl rfl) ?_
      have e53 : μ22_2 5 3 = μ14 5 3 := by rw [eμ22_2]; rfl
      have e52 : μ22_2 5 2 = μ14 5 2 := by rw [eμ22_2]; rfl
      have e51 : μ22_2 5 1 = 0 := by rw [eμ22_2]; rfl
      rw [e53, B14.2.2.2]
      exact k0 w14 a14 μ22_2 (jpA_mn e10 e14 hw14) hw14 (by rw [e52]; exact B14.2.2.1) (fun z q => by rw [eμ22_2, jm_off1 q.1, B14.1 z q, F10 z q]; exact F0 z q) e51
  · show jV _ _ jm_p_X6_readInto _ 11 [some (.inr (.inr 5)), some (.inr (.inr 24))] [.inl 0] μ10
    refine jv_if_eqT rfl rfl (by decide) ?_
    refine jv_aload_n rfl rfl rfl (by decide) ?_
    refine jv_iconst rfl rfl ?_
    refine jv_puti rfl rfl rfl ⟨by decide, rfl⟩ (Or.inl rfl) (fun μ22_3 eμ22_3 => ?_)
    refine jv_aload_n rfl rfl rfl (by decide) ?_
    refine jv_geti rfl rfl rfl ⟨by decide, rfl⟩ (by decide) ?_
    refine jv_ireturn rfl (Or.inl rfl) ?_
    have e53 : μ22_3 5 3 = μ10 5 3 := by rw [eμ22_3]; rfl
    have e52 : μ22_3 5 2 = μ10 5 2 := by rw [eμ22_3]; rfl
    have e51 : μ22_3 5 1 = 0 := by rw [eμ22_3]; rfl
    rw [e53, B10.2.2.2]
    exact k0 w10 a10 μ22_3 (jpA_no e10 hw10) hw10 (by rw [e52]; exact B10.2.2.1) (fun z q => by rw [eμ22_3, jm_off1 q.1, B10.1 z q]; exact F0 z q) e51
