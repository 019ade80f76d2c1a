set_option maxRecDepth 10000 in
theorem cl_isOf {X : jm_X} {d : Nat} {Q : jv_P} {μ : jm_M} {z kd so : Int} {g1 : Int → Int} (hz : jz_com z) (hx1 : X 1 = (6, g1)) (h1 : g1 1 = 0) (h2 : g1 2 = 1) (h3 : g1 3 = 1) (h4 : g1 4 = 0) (h5 : g1 5 = 4) (hs : μ z 0 = so) (hso : 1 ≤ so ∧ so ≤ 5) (hk : 0 ≤ kd ∧ kd ≤ 5) (k1 : (kd = 0 ∨ kd = so ∨ (kd = 1 ∧ (so = 2 ∨ so = 3)) ∨ (kd = 4 ∧ so = 5)) → Q [.inl 1] μ) (k0 : ¬ (kd = 0 ∨ kd = so ∨ (kd = 1 ∧ (so = 2 ∨ so = 3)) ∨ (kd = 4 ∧ so = 5)) → Q [.inl 0] μ) : cV X (d + 1) 9 [.inr (.inr z), .inl kd] μ Q := by
  refine jv_enter (d := d + 0) jm_p_X1_isOf [some (.inr (.inr z)), some (.inl kd), none, none] rfl rfl rfl (Nat.le_of_ble_eq_true rfl) rfl rfl ?_
  rcases (show so = 1 ∨ so = 2 ∨ so = 3 ∨ so = 4 ∨ so = 5 by omega) with q | q | q | q | q
  · refine jv_aload_n rfl rfl rfl (by have := hz.2; omega) ?_
    refine jv_geti rfl rfl hz.1 ⟨hz.2.1, rfl⟩ (by decide) ?_
    rw [hs, q]
    refine jv_istore_nK (L2 := [some (.inr (.inr z)), some (.inl kd), some (.inl 1), none]) rfl rfl rfl ?_
    refine jv_iconst rfl rfl ?_
    refine jv_istore_nK (L2 := [some (.inr (.inr z)), some (.inl kd), some (.inl 1), some (.inl 0)]) rfl rfl rfl ?_
    refine jv_iload_n rfl rfl rfl ?_
    refine jv_bipush rfl rfl ?_
    refine jv_icmp_geF rfl rfl (by decide) ?_
    refine jv_iload_n rfl rfl rfl ?_
    refine jv_if_leF rfl rfl (by decide) ?_
    refine jv_iload_n rfl rfl rfl ?_
    refine jv_bipush rfl rfl ?_
    refine jv_icmp_geF rfl rfl (by decide) ?_
    refine jv_iload_n rfl rfl rfl ?_
    refine jv_iload_n rfl rfl rfl ?_
    refine jv_icmp_eq rfl rfl rfl (fun c15 => ?_) (fun c15 => ?_)
    · refine jv_iload_n rfl rfl rfl ?_
      refine jv_iload_n rfl rfl rfl ?_
      refine jv_icmp_ne rfl rfl rfl (fun c24 => ?_) (fun c24 => ?_)
      · refine jv_iconst rfl rfl ?_
        refine jv_ireturn rfl (Or.inr ⟨rfl, by decide⟩) ?_
        exact k0 (by omega)
      · refine jv_iconst rfl rfl ?_
        refine jv_goto rfl rfl ?_
        refine jv_ireturn rfl (Or.inr ⟨rfl, by decide⟩) ?_
        exact k1 (by omega)
    · refine jv_getstatic rfl rfl ?_
      refine jv_iload_n rfl rfl rfl ?_
      refine jv_xaload rfl rfl ⟨by decide, by decide⟩ hx1 ⟨by decide, by decide⟩ ?_
      rw [h1]
      refine jv_istore_nK (L2 := [some (.inr (.inr z)), some (.inl kd), some (.inl 0), some (.inl 0)]) rfl rfl rfl ?_
      refine jv_iincK (L2 := [some (.inr (.inr z)), some (.inl kd), some (.inl 0), some (.inl 1)]) rfl rfl rfl (by decide) rfl ?_
      refine jv_goto rfl rfl ?_
      refine jv_iload_n rfl rfl rfl ?_
      refine jv_bipush rfl rfl ?_
      refine jv_icmp_geF rfl rfl (by decide) ?_
      refine jv_iload_n rfl rfl rfl ?_
      refine jv_if_leT rfl rfl (by decide) ?_
      refine jv_iload_n rfl rfl rfl ?_
      refine jv_iload_n rfl rfl rfl ?_
      refine jv_icmp_ne rfl rfl rfl (fun c24_1 => ?_) (fun c24_1 => ?_)
      · refine jv_iconst rfl rfl ?_
        refine jv_ireturn rfl (Or.inr ⟨rfl, by decide⟩) ?_
        exact k0 (by omega)
      · refine jv_iconst rfl rfl ?_
        refine jv_goto rfl rfl ?_
        refine jv_ireturn rfl (Or.inr ⟨rfl, by decide⟩) ?_
        exact k1 (by omega)
  · refine jv_aload_n rfl rfl rfl (by have := hz.2; omega) ?_
    refine jv_geti rfl rfl hz.1 ⟨hz.2.1, rfl⟩ (by decide) ?_
    rw [hs, q]
    refine jv_istore_nK (L2 := [some (.inr (.inr z)), some (.inl kd), some (.inl 2), none]) rfl rfl rfl ?_
    refine jv_iconst rfl rfl ?_
    refine jv_istore_nK (L2 := [some (.inr (.inr z)), some (.inl kd), some (.inl 2), some (.inl 0)]) rfl rfl rfl ?_
    refine jv_iload_n rfl rfl rfl ?_
    refine jv_bipush rfl rfl ?_
    refine jv_icmp_geF rfl rfl (by decide) ?_
    refine jv_iload_n rfl rfl rfl ?_
    refine jv_if_leF rfl rfl (by decide) ?_
    refine jv_iload_n rfl rfl rfl ?_
    refine jv_bipush rfl rfl ?_
    refine jv_icmp_geF rfl rfl (by decide) ?_
    refine jv_iload_n rfl rfl rfl ?_
    refine jv_iload_n rfl rfl rfl ?_
    refine jv_icmp_eq rfl rfl rfl (fun c15 => ?_) (fun c15 => ?_)
    · refine jv_iload_n rfl rfl rfl ?_
      refine jv_iload_n rfl rfl rfl ?_
      refine jv_icmp_ne rfl rfl rfl (fun c24 => ?_) (fun c24 => ?_)
      · refine jv_iconst rfl rfl ?_
        refine jv_ireturn rfl (Or.inr ⟨rfl, by decide⟩) ?_
        exact k0 (by omega)
      · refine jv_iconst rfl rfl ?_
        refine jv_goto rfl rfl ?_
        refine jv_ireturn rfl (Or.inr ⟨rfl, by decide⟩) ?_
        exact k1 (by omega)
    · refine jv_getstatic rfl rfl ?_
      refine jv_iload_n rfl rfl rfl ?_
      refine jv_xaload rfl rfl ⟨by decide, by decide⟩ hx1 ⟨by decide, by decide⟩ ?_
      rw [h2]
      refine jv_istore_nK (L2 := [some (.inr (.inr z)), some (.inl kd), some (.inl 1), some (.inl 0)]) rfl rfl rfl ?_
      refine jv_iincK (L2 := [some (.inr (.inr z)), some (.inl kd), some (.inl 1), some (.inl 1)]) rfl rfl rfl (by decide) rfl ?_
      refine jv_goto rfl rfl ?_
      refine jv_iload_n rfl rfl rfl ?_
      refine jv_bipush rfl rfl ?_
      refine jv_icmp_geF rfl rfl (by decide) ?_
      refine jv_iload_n rfl rfl rfl ?_
      refine jv_if_leF rfl rfl (by decide) ?_
      refine jv_iload_n rfl rfl rfl ?_
      refine jv_bipush rfl rfl ?_
      refine jv_icmp_geF rfl rfl (by decide) ?_
      refine jv_iload_n rfl rfl rfl ?_
      refine jv_iload_n rfl rfl rfl ?_
      refine jv_icmp_eq rfl rfl rfl (fun c15_1 => ?_) (fun c15_1 => ?_)
      · refine jv_iload_n rfl rfl rfl ?_
        refine jv_iload_n rfl rfl rfl ?_
        refine jv_icmp_ne rfl rfl rfl (fun c24_1 => ?_) (fun c24_1 => ?_)
        · refine jv_iconst rfl rfl ?_
          refine jv_ireturn rfl (Or.inr ⟨rfl, by decide⟩) ?_
          exact k0 (by omega)
        · refine jv_iconst rfl rfl ?_
          refine jv_goto rfl rfl ?_
          refine jv_ireturn rfl (Or.inr ⟨rfl, by decide⟩) ?_
          exact k1 (by omega)
      · refine jv_getstatic rfl rfl ?_
        refine jv_iload_n rfl rfl rfl ?_
        refine jv_xaload rfl rfl ⟨by decide, by decide⟩ hx1 ⟨by decide, by decide⟩ ?_
        rw [h1]
        refine jv_istore_nK (L2 := [some (.inr (.inr z)), some (.inl kd), some (.inl 0), some (.inl 1)]) rfl rfl rfl ?_
        refine jv_iincK (L2 := [some (.inr (.inr z)), some (.inl kd), some (.inl 0), some (.inl 2)]) rfl rfl rfl (by decide) rfl ?_
        refine jv_goto rfl rfl ?_
        refine jv_iload_n rfl rfl rfl ?_
        refine jv_bipush rfl rfl ?_
        refine jv_icmp_geF rfl rfl (by decide) ?_
        refine jv_iload_n rfl rfl rfl ?_
        refine jv_if_leT rfl rfl (by decide) ?_
        refine jv_iload_n rfl rfl rfl ?_
        refine jv_iload_n rfl rfl rfl ?_
        refine jv_icmp_ne rfl rfl rfl (fun c24_2 => ?_) (fun c24_2 => ?_)
        · refine jv_iconst rfl rfl ?_
          refine jv_ireturn rfl (Or.inr ⟨rfl, by decide⟩) ?_
          exact k0 (by omega)
        · refine jv_iconst rfl rfl ?_
          refine jv_goto rfl rfl ?_
          refine jv_ireturn rfl (Or.inr ⟨rfl, by decide⟩) ?_
          exact k1 (by omega)
  · refine jv_aload_n rfl rfl rfl (by have := hz.2; omega) ?_
    refine jv_geti rfl rfl hz.1 ⟨hz.2.1, rfl⟩ (by decide) ?_
    rw [hs, q]
    refine jv_istore_nK (L2 := [some (.inr (.inr z)), some (.inl kd), some (.inl 3), none]) rfl rfl rfl ?_
    refine jv_iconst rfl rfl ?_
    refine jv_istore_nK (L2 := [some (.inr (.inr z)), some (.inl kd), some (.inl 3), some (.inl 0)]) rfl rfl rfl ?_
    refine jv_iload_n rfl rfl rfl ?_
    refine jv_bipush rfl rfl ?_
    refine jv_icmp_geF rfl rfl (by decide) ?_
    refine jv_iload_n rfl rfl rfl ?_
    refine jv_if_leF rfl rfl (by decide) ?_
    refine jv_iload_n rfl rfl rfl ?_
    refine jv_bipush rfl rfl ?_
    refine jv_icmp_geF rfl rfl (by decide) ?_
    refine jv_iload_n rfl rfl rfl ?_
    refine jv_iload_n rfl rfl rfl ?_
    refine jv_icmp_eq rfl rfl rfl (fun c15 => ?_) (fun c15 => ?_)
    · refine jv_iload_n rfl rfl rfl ?_
      refine jv_iload_n rfl rfl rfl ?_
      refine jv_icmp_ne rfl rfl rfl (fun c24 => ?_) (fun c24 => ?_)
      · refine jv_iconst rfl rfl ?_
        refine jv_ireturn rfl (Or.inr ⟨rfl, by decide⟩) ?_
        exact k0 (by omega)
      · refine jv_iconst rfl rfl ?_
        refine jv_goto rfl rfl ?_
        refine jv_ireturn rfl (Or.inr ⟨rfl, by decide⟩) ?_
        exact k1 (by omega)
    · refine jv_getstatic rfl rfl ?_
      refine jv_iload_n rfl rfl rfl ?_
      refine jv_xaload rfl rfl ⟨by decide, by decide⟩ hx1 ⟨by decide, by decide⟩ ?_
      rw [h3]
      refine jv_istore_nK (L2 := [some (.inr (.inr z)), some (.inl kd), some (.inl 1), some (.inl 0)]) rfl rfl rfl ?_
      refine jv_iincK (L2 := [some (.inr (.inr z)), some (.inl kd), some (.inl 1), some (.inl 1)]) rfl rfl rfl (by decide) rfl ?_
      refine jv_goto rfl rfl ?_
      refine jv_iload_n rfl rfl rfl ?_
      refine jv_bipush rfl rfl ?_
      refine jv_icmp_geF rfl rfl (by decide) ?_
      refine jv_iload_n rfl rfl rfl ?_
      refine jv_if_leF rfl rfl (by decide) ?_
      refine jv_iload_n rfl rfl rfl ?_
      refine jv_bipush rfl rfl ?_
      refine jv_icmp_geF rfl rfl (by decide) ?_
      refine jv_iload_n rfl rfl rfl ?_
      refine jv_iload_n rfl rfl rfl ?_
      refine jv_icmp_eq rfl rfl rfl (fun c15_1 => ?_) (fun c15_1 => ?_)
      · refine jv_iload_n rfl rfl rfl ?_
        refine jv_iload_n rfl rfl rfl ?_
        refine jv_icmp_ne rfl rfl rfl (fun c24_1 => ?_) (fun c24_1 => ?_)
        · refine jv_iconst rfl rfl ?_
          refine jv_ireturn rfl (Or.inr ⟨rfl, by decide⟩) ?_
          exact k0 (by omega)
        · refine jv_iconst rfl rfl ?_
          refine jv_goto rfl rfl ?_
          refine jv_ireturn rfl (Or.inr ⟨rfl, by decide⟩) ?_
          exact k1 (by omega)
      · refine jv_getstatic rfl rfl ?_
        refine jv_iload_n rfl rfl rfl ?_
        refine jv_xaload rfl rfl ⟨by decide, by decide⟩ hx1 ⟨by decide, by decide⟩ ?_
        rw [h1]
        refine jv_istore_nK (L2 := [some (.inr (.inr z)), some (.inl kd), some (.inl 0), some (.inl 1)]) rfl rfl rfl ?_
        refine jv_iincK (L2 := [some (.inr (.inr z)), some (.inl kd), some (.inl 0), some (.inl 2)]) rfl rfl rfl (by decide) rfl ?_
        refine jv_goto rfl rfl ?_
        refine jv_iload_n rfl rfl rfl ?_
        refine jv_bipush rfl rfl ?_
        refine jv_icmp_geF rfl rfl (by decide) ?_
        refine jv_iload_n rfl rfl rfl ?_
        refine jv_if_leT rfl rfl (by decide) ?_
        refine jv_iload_n rfl rfl rfl ?_
        refine jv_iload_n rfl rfl rfl ?_
        refine jv_icmp_ne rfl rfl rfl (fun c24_2 => ?_) (fun c24_2 => ?_)
        · refine jv_iconst rfl rfl ?_
          refine jv_ireturn rfl (Or.inr ⟨rfl, by decide⟩) ?_
          exact k0 (by omega)
        · refine jv_iconst rfl rfl ?_
          refine jv_goto rfl rfl ?_
          refine jv_ireturn rfl (Or.inr ⟨rfl, by decide⟩) ?_
          exact k1 (by omega)
  · refine jv_aload_n rfl rfl rfl (by have := hz.2; omega) ?_
    refine jv_geti rfl rfl hz.1 ⟨hz.2.1, rfl⟩ (by decide) ?_
    rw [hs, q]
    refine jv_istore_nK (L2 := [some (.inr (.inr z)), some (.inl kd), some (.inl 4), none]) rfl rfl rfl ?_
    refine jv_iconst rfl rfl ?_
    refine jv_istore_nK (L2 := [some (.inr (.inr z)), some (.inl kd), some (.inl 4), some (.inl 0)]) rfl rfl rfl ?_
    refine jv_iload_n rfl rfl rfl ?_
    refine jv_bipush rfl rfl ?_
    refine jv_icmp_geF rfl rfl (by decide) ?_
    refine jv_iload_n rfl rfl rfl ?_
    refine jv_if_leF rfl rfl (by decide) ?_
    refine jv_iload_n rfl rfl rfl ?_
    refine jv_bipush rfl rfl ?_
    refine jv_icmp_geF rfl rfl (by decide) ?_
    refine jv_iload_n rfl rfl rfl ?_
    refine jv_iload_n rfl rfl rfl ?_
    refine jv_icmp_eq rfl rfl rfl (fun c15 => ?_) (fun c15 => ?_)
    · refine jv_iload_n rfl rfl rfl ?_
      refine jv_iload_n rfl rfl rfl ?_
      refine jv_icmp_ne rfl rfl rfl (fun c24 => ?_) (fun c24 => ?_)
      · refine jv_iconst rfl rfl ?_
        refine jv_ireturn rfl (Or.inr ⟨rfl, by decide⟩) ?_
        exact k0 (by omega)
      · refine jv_iconst rfl rfl ?_
        refine jv_goto rfl rfl ?_
        refine jv_ireturn rfl (Or.inr ⟨rfl, by decide⟩) ?_
        exact k1 (by omega)
    · refine jv_getstatic rfl rfl ?_
      refine jv_iload_n rfl rfl rfl ?_
      refine jv_xaload rfl rfl ⟨by decide, by decide⟩ hx1 ⟨by decide, by decide⟩ ?_
      rw [h4]
      refine jv_istore_nK (L2 := [some (.inr (.inr z)), some (.inl kd), some (.inl 0), some (.inl 0)]) rfl rfl rfl ?_
      refine jv_iincK (L2 := [some (.inr (.inr z)), some (.inl kd), some (.inl 0), some (.inl 1)]) rfl rfl rfl (by decide) rfl ?_
      refine jv_goto rfl rfl ?_
      refine jv_iload_n rfl rfl rfl ?_
      refine jv_bipush rfl rfl ?_
      refine jv_icmp_geF rfl rfl (by decide) ?_
      refine jv_iload_n rfl rfl rfl ?_
      refine jv_if_leT rfl rfl (by decide) ?_
      refine jv_iload_n rfl rfl rfl ?_
      refine jv_iload_n rfl rfl rfl ?_
      refine jv_icmp_ne rfl rfl rfl (fun c24_1 => ?_) (fun c24_1 => ?_)
      · refine jv_iconst rfl rfl ?_
        refine jv_ireturn rfl (Or.inr ⟨rfl, by decide⟩) ?_
        exact k0 (by omega)
      · refine jv_iconst rfl rfl ?_
        refine jv_goto rfl rfl ?_
        refine jv_ireturn rfl (Or.inr ⟨rfl, by decide⟩) ?_
        exact k1 (by omega)
  · refine jv_aload_n rfl rfl rfl (by have := hz.2; omega) ?_
    refine jv_geti rfl rfl hz.1 ⟨hz.2.1, rfl⟩ (by decide) ?_
    rw [hs, q]
    refine jv_istore_nK (L2 := [some (.inr (.inr z)), some (.inl kd), some (.inl 5), none]) rfl rfl rfl ?_
    refine jv_iconst rfl rfl ?_
    refine jv_istore_nK (L2 := [some (.inr (.inr z)), some (.inl kd), some (.inl 5), some (.inl 0)]) rfl rfl rfl ?_
    refine jv_iload_n rfl rfl rfl ?_
    refine jv_bipush rfl rfl ?_
    refine jv_icmp_geF rfl rfl (by decide) ?_
    refine jv_iload_n rfl rfl rfl ?_
    refine jv_if_leF rfl rfl (by decide) ?_
    refine jv_iload_n rfl rfl rfl ?_
    refine jv_bipush rfl rfl ?_
    refine jv_icmp_geF rfl rfl (by decide) ?_
    refine jv_iload_n rfl rfl rfl ?_
    refine jv_iload_n rfl rfl rfl ?_
    refine jv_icmp_eq rfl rfl rfl (fun c15 => ?_) (fun c15 => ?_)
    · refine jv_iload_n rfl rfl rfl ?_
      refine jv_iload_n rfl rfl rfl ?_
      refine jv_icmp_ne rfl rfl rfl (fun c24 => ?_) (fun c24 => ?_)
      · refine jv_iconst rfl rfl ?_
        refine jv_ireturn rfl (Or.inr ⟨rfl, by decide⟩) ?_
        exact k0 (by omega)
      · refine jv_iconst rfl rfl ?_
        refine jv_goto rfl rfl ?_
        refine jv_ireturn rfl (Or.inr ⟨rfl, by decide⟩) ?_
        exact k1 (by omega)
    · refine jv_getstatic rfl rfl ?_
      refine jv_iload_n rfl rfl rfl ?_
      refine jv_xaload rfl rfl ⟨by decide, by decide⟩ hx1 ⟨by decide, by decide⟩ ?_
      rw [h5]
      refine jv_istore_nK (L2 := [some (.inr (.inr z)), some (.inl kd), some (.inl 4), some (.inl 0)]) rfl rfl rfl ?_
      refine jv_iincK (L2 := [some (.inr (.inr z)), some (.inl kd), some (.inl 4), some (.inl 1)]) rfl rfl rfl (by decide) rfl ?_
      refine jv_goto rfl rfl ?_
      refine jv_iload_n rfl rfl rfl ?_
      refine jv_bipush rfl rfl ?_
      refine jv_icmp_geF rfl rfl (by decide) ?_
      refine jv_iload_n rfl rfl rfl ?_
      refine jv_if_leF rfl rfl (by decide) ?_
      refine jv_iload_n rfl rfl rfl ?_
      refine jv_bipush rfl rfl ?_
      refine jv_icmp_geF rfl rfl (by decide) ?_
      refine jv_iload_n rfl rfl rfl ?_
      refine jv_iload_n rfl rfl rfl ?_
      refine jv_icmp_eq rfl rfl rfl (fun c15_1 => ?_) (fun c15_1 => ?_)
      · refine jv_iload_n rfl rfl rfl ?_
        refine jv_iload_n rfl rfl rfl ?_
        refine jv_icmp_ne rfl rfl rfl (fun c24_1 => ?_) (fun c24_1 => ?_)
        · refine jv_iconst rfl rfl ?_
          refine jv_ireturn rfl (Or.inr ⟨rfl, by decide⟩) ?_
          exact k0 (by omega)
        · refine jv_iconst rfl rfl ?_
          refine jv_goto rfl rfl ?_
          refine jv_ireturn rfl (Or.inr ⟨rfl, by decide⟩) ?_
          exact k1 (by omega)
      · refine jv_getstatic rfl rfl ?_
        refine jv_iload_n rfl rfl rfl ?_
        refine jv_xaload rfl rfl ⟨by decide, by decide⟩ hx1 ⟨by decide, by decide⟩ ?_
        rw [h4]
        refine jv_istore_nK (L2 := [some (.inr (.inr z)), some (.inl kd), some (.inl 0), some (.inl 1)]) rfl rfl rfl ?_
        refine jv_iincK (L2 := [some (.inr (.inr z)), some (.inl kd), some (.inl 0), some (.inl 2)]) rfl rfl rfl (by decide) rfl ?_
        refine jv_goto rfl rfl ?_
        refine jv_iload_n rfl rfl rfl ?_
        refine jv_bipush rfl rfl ?_
        refine jv_icmp_geF rfl rfl (by decide) ?_
        refine jv_iload_n rfl rfl rfl ?_
        refine jv_if_leT rfl rfl (by decide) ?_
        refine jv_iload_n rfl rfl rfl ?_
        refine jv_iload_n rfl rfl rfl ?_
        refine jv_icmp_ne rfl rfl rfl (fun c24_2 => ?_) (fun c24_2 => ?_)
        · refine jv_iconst rfl rfl ?_
          refine jv_ireturn rfl (Or.inr ⟨rfl, by decide⟩) ?_
          exact k0 (by omega)
        · refine jv_iconst rfl rfl ?_
          refine jv_goto rfl rfl ?_
          refine jv_ireturn rfl (Or.inr ⟨rfl, by decide⟩) ?_
          exact k1 (by omega)
set_option maxRecDepth 10000 in
theorem mo_isOf {X : jm_X} {d : Nat} {Q : jv_P} {μ : jm_M} {c kd so : Int} (hc : 0 ≤ c ∧ c < 6) (hs : μ 95 (32 + c) = so) (k1 : (kd = 0 ∨ kd = so ∨ (kd = 1 ∧ (so = 2 ∨ so = 3)) ∨ (kd = 4 ∧ so = 5)) → Q [.inl 1] μ) (k0 : ¬ (kd = 0 ∨ kd = so ∨ (kd = 1 ∧ (so = 2 ∨ so = 3)) ∨ (kd = 4 ∧ so = 5)) → Q [.inl 0] μ) : cV X (d + 1) 207 [.inr (.inr 94), .inl c, .inl kd] μ Q := by
  refine jv_enter (d := d + 0) jm_p_X10_isOf [some (.inr (.inr 94)), some (.inl c), some (.inl kd), none] rfl rfl rfl (Nat.le_of_ble_eq_true rfl) rfl rfl ?_
  refine jv_aload_n rfl rfl rfl (by decide) ?_
  refine jv_getr (w := 95) rfl rfl rfl ⟨by decide, rfl⟩ rfl rfl ?_
  refine jv_bipush rfl rfl ?_
  refine jv_iload_n rfl rfl rfl ?_
  refine jv_iadd rfl rfl ⟨by omega, by omega⟩ ?_
  refine jv_iaload rfl rfl (by decide) rfl ⟨by omega, by omega⟩ ?_
  refine jv_istore_n (fun x => [some (.inr (.inr 94)), some (.inl c), some (.inl kd), some (.inl x)]) rfl rfl (fun _ => rfl) (fun x3_6 ex3_6 => ?_)
  refine jv_iload_n rfl rfl rfl ?_
  refine jv_if_eq rfl rfl rfl (fun c8 => ?_) (fun c8 => ?_)
  · refine jv_iconst rfl rfl ?_
    refine jv_goto rfl rfl ?_
    refine jv_ireturn rfl (Or.inr ⟨rfl, by decide⟩) ?_
    exact k1 (by omega)
  · refine jv_iload_n rfl rfl rfl ?_
    refine jv_iload_n rfl rfl rfl ?_
    refine jv_icmp_eq rfl rfl rfl (fun c11 => ?_) (fun c11 => ?_)
    · refine jv_iconst rfl rfl ?_
      refine jv_goto rfl rfl ?_
      refine jv_ireturn rfl (Or.inr ⟨rfl, by decide⟩) ?_
      exact k1 (by omega)
    · refine jv_iload_n rfl rfl rfl ?_
      refine jv_iconst rfl rfl ?_
      refine jv_icmp_ne rfl rfl rfl (fun c14 => ?_) (fun c14 => ?_)
      · refine jv_iload_n rfl rfl rfl ?_
        refine jv_iconst rfl rfl ?_
        refine jv_icmp_ne rfl rfl rfl (fun c23 => ?_) (fun c23 => ?_)
        · refine jv_iconst rfl rfl ?_
          refine jv_ireturn rfl (Or.inr ⟨rfl, by decide⟩) ?_
          exact k0 (by omega)
        · refine jv_iload_n rfl rfl rfl ?_
          refine jv_iconst rfl rfl ?_
          refine jv_icmp_ne rfl rfl rfl (fun c26 => ?_) (fun c26 => ?_)
          · refine jv_iconst rfl rfl ?_
            refine jv_ireturn rfl (Or.inr ⟨rfl, by decide⟩) ?_
            exact k0 (by omega)
          · refine jv_iconst rfl rfl ?_
            refine jv_goto rfl rfl ?_
            refine jv_ireturn rfl (Or.inr ⟨rfl, by decide⟩) ?_
            exact k1 (by omega)
      · refine jv_iload_n rfl rfl rfl ?_
        refine jv_iconst rfl rfl ?_
        refine jv_icmp_eq rfl rfl rfl (fun c17 => ?_) (fun c17 => ?_)
        · refine jv_iconst rfl rfl ?_
          refine jv_goto rfl rfl ?_
          refine jv_ireturn rfl (Or.inr ⟨rfl, by decide⟩) ?_
          exact k1 (by omega)
        · refine jv_iload_n rfl rfl rfl ?_
          refine jv_iconst rfl rfl ?_
          refine jv_icmp_eq rfl rfl rfl (fun c20 => ?_) (fun c20 => ?_)
          · refine jv_iconst rfl rfl ?_
            refine jv_goto rfl rfl ?_
            refine jv_ireturn rfl (Or.inr ⟨rfl, by decide⟩) ?_
            exact k1 (by omega)
          · refine jv_iload_n rfl rfl rfl ?_
            refine jv_iconst rfl rfl ?_
            refine jv_icmp_ne rfl rfl rfl (fun c23_1 => ?_) (fun c23_1 => ?_)
            · refine jv_iconst rfl rfl ?_
              refine jv_ireturn rfl (Or.inr ⟨rfl, by decide⟩) ?_
              exact k0 (by omega)
            · refine jv_iload_n rfl rfl rfl ?_
              refine jv_iconst rfl rfl ?_
              refine jv_icmp_ne rfl rfl rfl (fun c26_1 => ?_) (fun c26_1 => ?_)
              · refine jv_iconst rfl rfl ?_
                refine jv_ireturn rfl (Or.inr ⟨rfl, by decide⟩) ?_
                exact k0 (by omega)
              · refine jv_iconst rfl rfl ?_
                refine jv_goto rfl rfl ?_
                refine jv_ireturn rfl (Or.inr ⟨rfl, by decide⟩) ?_
                exact k1 (by omega)
set_option maxRecDepth 10000 in
set_option maxHeartbeats 1000000 in
theorem pr_as {len : Nat} {sc : Int → Int} {c : Int} {k : Int} (r_c : jm_r c) (r_k : jm_r k) : jp (jm_xt len sc) 119 208 [.inl c, .inl k] := by
  intro μ hI
  obtain ⟨⟨hit, hlan⟩, ⟨ht0, ht1, ht2⟩, ⟨hr0, hr1, hr2⟩, ⟨hst, hfa⟩, htown, hidle, himg, hpast⟩ := id hI
  obtain ⟨hwf, hcf, hkd, hmat, hrel, hh01, hhot, hnc⟩ := id htown
  obtain ⟨⟨r0, r1, r2, r3⟩, rm, rz, rc⟩ := id hrel
  obtain ⟨w0, w1, w2, w3, w4, w6, w7, w8⟩ := id hwf
  have hHμ := jH_of hI
  have hrc : ∀ c, 0 ≤ c → c < μ 95 1 → μ (18 + c) 0 = μ 95 (32 + c) ∧ μ (18 + c) 1 = μ 95 (38 + c) ∧ μ (18 + c) 2 = μ 95 (44 + c) ∧ μ (18 + c) 3 = μ 95 (50 + c) ∧ μ (18 + c) 4 = μ 95 (56 + c) := fun c a b => rc c a b
  refine jv_enter (d := 199) jm_p_X9_as [some (.inr (.inr 0)), some (.inl c), some (.inl k)] rfl rfl rfl (Nat.le_of_ble_eq_true rfl) rfl rfl ?_
  refine jv_aload_n rfl rfl rfl (by decide) ?_
  refine jv_iload_n rfl rfl rfl ?_
  refine jv_callV1 rfl rfl rfl rfl ⟨by decide, rfl⟩ (Nat.le_of_ble_eq_true rfl) (cl_noComer (fun b2 => ?_) (fun b2 => ?_))
  · show jV _ _ jm_p_X9_as _ 3 [some (.inr (.inr 0)), some (.inl c), some (.inl k)] [.inl 1] μ
    refine jv_if_neT rfl rfl (by decide) ?_
    refine jv_ldc rfl rfl ?_
    refine jv_ireturn rfl (Or.inl rfl) ?_
    refine ⟨_, rfl, ?_⟩
    skip
    refine jv_enter (d := 199) jm_p_X10_as [some (.inr (.inr 94)), some (.inl c), some (.inl k)] rfl rfl rfl (Nat.le_of_ble_eq_true rfl) rfl rfl ?_
    refine jv_aload_n rfl rfl rfl (by decide) ?_
    refine jv_iload_n rfl rfl rfl ?_
    refine jv_callV1 rfl rfl rfl rfl ⟨by decide, rfl⟩ (Nat.le_of_ble_eq_true rfl) (mo_isComer (by omega) (fun b2 => ?_) (fun b2 => ?_))
    · first
      | (exfalso; omega)
      | skip
        show jV _ _ jm_p_X10_as _ 3 [some (.inr (.inr 94)), some (.inl c), some (.inl k)] [.inl 1] μ
        refine jv_if_eqF rfl rfl (by decide) ?_
        refine jv_iload_n rfl rfl rfl ?_
        refine jv_i2l rfl rfl ?_
        refine jv_lconst rfl rfl ?_
        refine jv_ldc2_w rfl rfl ?_
        refine jv_callS3 rfl rfl rfl (Nat.le_of_ble_eq_true rfl) (mo_in (fun b8 => ?_) (fun b8 => ?_))
        · first
          | (exfalso; omega)
          | skip
            show jV _ _ jm_p_X10_as _ 9 [some (.inr (.inr 94)), some (.inl c), some (.inl k)] [.inl 1] μ
            refine jv_if_neT rfl rfl (by decide) ?_
            refine jv_aload_n rfl rfl rfl (by decide) ?_
            refine jv_iload_n rfl rfl rfl ?_
            refine jv_iload_n rfl rfl rfl ?_
            refine jv_callV2 rfl rfl rfl rfl ⟨by decide, rfl⟩ (Nat.le_of_ble_eq_true rfl) (mo_isOf (so := μ 95 (32 + c)) (by omega) (by first | rfl | exact g32) (fun b15 => ?_) (fun b15 => ?_))
            · first
              | (exfalso; omega)
              | skip
                show jV _ _ jm_p_X10_as _ 16 [some (.inr (.inr 94)), some (.inl c), some (.inl k)] [.inl 1] μ
                refine jv_if_eqF rfl rfl (by decide) ?_
                refine jv_aload_n rfl rfl rfl (by decide) ?_
                refine jv_iload_n rfl rfl rfl ?_
                refine jv_callV1 rfl rfl rfl rfl ⟨by decide, rfl⟩ (Nat.le_of_ble_eq_true rfl) (mo_well (fun ν19 eν19 => ?_))
                show jV _ _ jm_p_X10_as _ 20 [some (.inr (.inr 94)), some (.inl c), some (.inl k)] [.inl c] ν19
                refine jv_goto rfl rfl ?_
                refine jv_ireturn rfl (Or.inl rfl) ?_
                exfalso; omega
            · first
              | (exfalso; omega)
              | skip
                show jV _ _ jm_p_X10_as _ 16 [some (.inr (.inr 94)), some (.inl c), some (.inl k)] [.inl 0] μ
                refine jv_if_eqT rfl rfl (by decide) ?_
                refine jv_aload_n rfl rfl rfl (by decide) ?_
                refine jv_iconst rfl rfl ?_
                refine jv_callV1 rfl rfl rfl rfl ⟨by decide, rfl⟩ (Nat.le_of_ble_eq_true rfl) (mo_find (by omega) (fun ν23 eν23 => ?_))
                show jV _ _ jm_p_X10_as _ 24 [some (.inr (.inr 94)), some (.inl c), some (.inl k)] [.inl (-1000010 - 3)] ν23
                refine jv_ireturn rfl (Or.inl rfl) ?_
                exfalso; omega
        · first
          | (exfalso; omega)
          | skip
            show jV _ _ jm_p_X10_as _ 9 [some (.inr (.inr 94)), some (.inl c), some (.inl k)] [.inl 0] μ
            refine jv_if_neF rfl rfl (by decide) ?_
            refine jv_ldc rfl rfl ?_
            refine jv_ireturn rfl (Or.inl rfl) ?_
            exact ⟨jv_one (by omega), hI⟩
    · first
      | (exfalso; omega)
      | skip
        show jV _ _ jm_p_X10_as _ 3 [some (.inr (.inr 94)), some (.inl c), some (.inl k)] [.inl 0] μ
        refine jv_if_eqT rfl rfl (by decide) ?_
        refine jv_ldc rfl rfl ?_
        refine jv_ireturn rfl (Or.inl rfl) ?_
        exact ⟨jv_one (by omega), hI⟩
  · show jV _ _ jm_p_X9_as _ 3 [some (.inr (.inr 0)), some (.inl c), some (.inl k)] [.inl 0] μ
    refine jv_if_neF rfl rfl (by decide) ?_
    refine jv_iload_n rfl rfl rfl ?_
    refine jv_if_lt rfl rfl rfl (fun c5 => ?_) (fun c5 => ?_)
    · refine jv_ldc rfl rfl ?_
      refine jv_ireturn rfl (Or.inl rfl) ?_
      refine ⟨_, rfl, ?_⟩
      skip
      refine jv_enter (d := 199) jm_p_X10_as [some (.inr (.inr 94)), some (.inl c), some (.inl k)] rfl rfl rfl (Nat.le_of_ble_eq_true rfl) rfl rfl ?_
      refine jv_aload_n rfl rfl rfl (by decide) ?_
      refine jv_iload_n rfl rfl rfl ?_
      refine jv_callV1 rfl rfl rfl rfl ⟨by decide, rfl⟩ (Nat.le_of_ble_eq_true rfl) (mo_isComer (by omega) (fun b2 => ?_) (fun b2 => ?_))
      · first
        | (exfalso; omega)
        | skip
          show jV _ _ jm_p_X10_as _ 3 [some (.inr (.inr 94)), some (.inl c), some (.inl k)] [.inl 1] μ
          refine jv_if_eqF rfl rfl (by decide) ?_
          refine jv_iload_n rfl rfl rfl ?_
          refine jv_i2l rfl rfl ?_
          refine jv_lconst rfl rfl ?_
          refine jv_ldc2_w rfl rfl ?_
          refine jv_callS3 rfl rfl rfl (Nat.le_of_ble_eq_true rfl) (mo_in (fun b8 => ?_) (fun b8 => ?_))
          · first
            | (exfalso; omega)
            | skip
              show jV _ _ jm_p_X10_as _ 9 [some (.inr (.inr 94)), some (.inl c), some (.inl k)] [.inl 1] μ
              refine jv_if_neT rfl rfl (by decide) ?_
              refine jv_aload_n rfl rfl rfl (by decide) ?_
              refine jv_iload_n rfl rfl rfl ?_
              refine jv_iload_n rfl rfl rfl ?_
              refine jv_callV2 rfl rfl rfl rfl ⟨by decide, rfl⟩ (Nat.le_of_ble_eq_true rfl) (mo_isOf (so := μ 95 (32 + c)) (by omega) (by first | rfl | exact g32) (fun b15 => ?_) (fun b15 => ?_))
              · first
                | (exfalso; omega)
                | skip
                  show jV _ _ jm_p_X10_as _ 16 [some (.inr (.inr 94)), some (.inl c), some (.inl k)] [.inl 1] μ
                  refine jv_if_eqF rfl rfl (by decide) ?_
                  refine jv_aload_n rfl rfl rfl (by decide) ?_
                  refine jv_iload_n rfl rfl rfl ?_
                  refine jv_callV1 rfl rfl rfl rfl ⟨by decide, rfl⟩ (Nat.le_of_ble_eq_true rfl) (mo_well (fun ν19 eν19 => ?_))
                  show jV _ _ jm_p_X10_as _ 20 [some (.inr (.inr 94)), some (.inl c), some (.inl k)] [.inl c] ν19
                  refine jv_goto rfl rfl ?_
                  refine jv_ireturn rfl (Or.inl rfl) ?_
                  exfalso; omega
              · first
                | (exfalso; omega)
                | skip
                  show jV _ _ jm_p_X10_as _ 16 [some (.inr (.inr 94)), some (.inl c), some (.inl k)] [.inl 0] μ
                  refine jv_if_eqT rfl rfl (by decide) ?_
                  refine jv_aload_n rfl rfl rfl (by decide) ?_
                  refine jv_iconst rfl rfl ?_
                  refine jv_callV1 rfl rfl rfl rfl ⟨by decide, rfl⟩ (Nat.le_of_ble_eq_true rfl) (mo_find (by omega) (fun ν23 eν23 => ?_))
                  show jV _ _ jm_p_X10_as _ 24 [some (.inr (.inr 94)), some (.inl c), some (.inl k)] [.inl (-1000010 - 3)] ν23
                  refine jv_ireturn rfl (Or.inl rfl) ?_
                  exfalso; omega
          · first
            | (exfalso; omega)
            | skip
              show jV _ _ jm_p_X10_as _ 9 [some (.inr (.inr 94)), some (.inl c), some (.inl k)] [.inl 0] μ
              refine jv_if_neF rfl rfl (by decide) ?_
              refine jv_ldc rfl rfl ?_
              refine jv_ireturn rfl (Or.inl rfl) ?_
              exact ⟨jv_one (by omega), hI⟩
      · first
        | (exfalso; omega)
        | skip
          show jV _ _ jm_p_X10_as _ 3 [some (.inr (.inr 94)), some (.inl c), some (.inl k)] [.inl 0] μ
          refine jv_if_eqT rfl rfl (by decide) ?_
          refine jv_ldc rfl rfl ?_
          refine jv_ireturn rfl (Or.inl rfl) ?_
          exact ⟨jv_one (by omega), hI⟩
    · refine jv_iload_n rfl rfl rfl ?_
      refine jv_bipush rfl rfl ?_
      refine jv_icmp_lt rfl rfl rfl (fun c8 => ?_) (fun c8 => ?_)
      · refine jv_aload_n rfl rfl rfl (by decide) ?_
        refine jv_getr (w := 7) rfl rfl rfl ⟨by decide, rfl⟩ rfl rfl ?_
        refine jv_getr (w := 9) rfl rfl rfl ⟨by decide, rfl⟩ rfl rfl ?_
        refine jv_iload_n rfl rfl rfl ?_
        refine jv_aaloadv (v := 18 + c) rfl rfl rfl ⟨by decide, by decide, by decide⟩ ⟨by omega, by omega⟩ (jH_com hHμ (by omega) (by omega)) ?_
        refine jv_iload_n rfl rfl rfl ?_
        refine jv_callV1 rfl rfl rfl (jz_com7 (by omega) (by omega)).1 ⟨by omega, rfl⟩ (Nat.le_of_ble_eq_true rfl) (cl_isOf (so := μ 95 (32 + c)) (jz_com7 (by omega) (by omega)) rfl rfl rfl rfl rfl rfl (hrc c (by omega) (by omega)).1 ⟨hkd c (by omega) (by omega), (w8 c (by omega) (by omega)).1.2⟩ (by omega) (fun b17 => ?_) (fun b17 => ?_))
        · show jV _ _ jm_p_X9_as _ 18 [some (.inr (.inr 0)), some (.inl c), some (.inl k)] [.inl 1] μ
          refine jv_if_neT rfl rfl (by decide) ?_
          refine jv_aload_n rfl rfl rfl (by decide) ?_
          refine jv_iload_n rfl rfl rfl ?_
          refine jv_callV1 rfl rfl rfl rfl ⟨by decide, rfl⟩ (Nat.le_of_ble_eq_true rfl) (cl_unfound (fun μ25 eμ25 => ?_))
          show jV _ _ jm_p_X9_as _ 26 [some (.inr (.inr 0)), some (.inl c), some (.inl k)] [.inl c] μ25
          refine jv_ireturn rfl (Or.inl rfl) ?_
          refine ⟨_, rfl, ?_⟩
          have g95 : μ25 95 = μ 95 := by rw [eμ25]; rfl
          have g01 : μ25 95 1 = μ 95 1 := by rw [g95]
          have g32 : μ25 95 (32 + c) = μ 95 (32 + c) := by rw [g95]
          refine jv_enter (d := 199) jm_p_X10_as [some (.inr (.inr 94)), some (.inl c), some (.inl k)] rfl rfl rfl (Nat.le_of_ble_eq_true rfl) rfl rfl ?_
          refine jv_aload_n rfl rfl rfl (by decide) ?_
          refine jv_iload_n rfl rfl rfl ?_
          refine jv_callV1 rfl rfl rfl rfl ⟨by decide, rfl⟩ (Nat.le_of_ble_eq_true rfl) (mo_isComer (by omega) (fun b2 => ?_) (fun b2 => ?_))
          · first
            | (exfalso; omega)
            | skip
              show jV _ _ jm_p_X10_as _ 3 [some (.inr (.inr 94)), some (.inl c), some (.inl k)] [.inl 1] μ25
              refine jv_if_eqF rfl rfl (by decide) ?_
              refine jv_iload_n rfl rfl rfl ?_
              refine jv_i2l rfl rfl ?_
              refine jv_lconst rfl rfl ?_
              refine jv_ldc2_w rfl rfl ?_
              refine jv_callS3 rfl rfl rfl (Nat.le_of_ble_eq_true rfl) (mo_in (fun b8 => ?_) (fun b8 => ?_))
              · first
                | (exfalso; omega)
                | skip
                  show jV _ _ jm_p_X10_as _ 9 [some (.inr (.inr 94)), some (.inl c), some (.inl k)] [.inl 1] μ25
                  refine jv_if_neT rfl rfl (by decide) ?_
                  refine jv_aload_n rfl rfl rfl (by decide) ?_
                  refine jv_iload_n rfl rfl rfl ?_
                  refine jv_iload_n rfl rfl rfl ?_
                  refine jv_callV2 rfl rfl rfl rfl ⟨by decide, rfl⟩ (Nat.le_of_ble_eq_true rfl) (mo_isOf (so := μ 95 (32 + c)) (by omega) (by first | rfl | exact g32) (fun b15 => ?_) (fun b15 => ?_))
                  · first
                    | (exfalso; omega)
                    | skip
                      show jV _ _ jm_p_X10_as _ 16 [some (.inr (.inr 94)), some (.inl c), some (.inl k)] [.inl 1] μ25
                      refine jv_if_eqF rfl rfl (by decide) ?_
                      refine jv_aload_n rfl rfl rfl (by decide) ?_
                      refine jv_iload_n rfl rfl rfl ?_
                      refine jv_callV1 rfl rfl rfl rfl ⟨by decide, rfl⟩ (Nat.le_of_ble_eq_true rfl) (mo_well (fun ν19 eν19 => ?_))
                      show jV _ _ jm_p_X10_as _ 20 [some (.inr (.inr 94)), some (.inl c), some (.inl k)] [.inl c] ν19
                      refine jv_goto rfl rfl ?_
                      refine jv_ireturn rfl (Or.inl rfl) ?_
                      exact ⟨jv_one (by omega), jI_find hI eμ25 eν19⟩
                  · first
                    | (exfalso; omega)
                    | skip
                      show jV _ _ jm_p_X10_as _ 16 [some (.inr (.inr 94)), some (.inl c), some (.inl k)] [.inl 0] μ25
                      refine jv_if_eqT rfl rfl (by decide) ?_
                      refine jv_aload_n rfl rfl rfl (by decide) ?_
                      refine jv_iconst rfl rfl ?_
                      refine jv_callV1 rfl rfl rfl rfl ⟨by decide, rfl⟩ (Nat.le_of_ble_eq_true rfl) (mo_find (by omega) (fun ν23 eν23 => ?_))
                      show jV _ _ jm_p_X10_as _ 24 [some (.inr (.inr 94)), some (.inl c), some (.inl k)] [.inl (-1000010 - 3)] ν23
                      refine jv_ireturn rfl (Or.inl rfl) ?_
                      exact ⟨jv_one (by omega), jI_find hI eμ25 eν23⟩
              · first
                | (exfalso; omega)
                | skip
                  show jV _ _ jm_p_X10_as _ 9 [some (.inr (.inr 94)), some (.inl c), some (.inl k)] [.inl 0] μ25
                  refine jv_if_neF rfl rfl (by decide) ?_
                  refine jv_ldc rfl rfl ?_
                  refine jv_ireturn rfl (Or.inl rfl) ?_
                  exfalso; omega
          · first
            | (exfalso; omega)
            | skip
              show jV _ _ jm_p_X10_as _ 3 [some (.inr (.inr 94)), some (.inl c), some (.inl k)] [.inl 0] μ25
              refine jv_if_eqT rfl rfl (by decide) ?_
              refine jv_ldc rfl rfl ?_
              refine jv_ireturn rfl (Or.inl rfl) ?_
              exfalso; omega
        · show jV _ _ jm_p_X9_as _ 18 [some (.inr (.inr 0)), some (.inl c), some (.inl k)] [.inl 0] μ
          refine jv_if_neF rfl rfl (by decide) ?_
          refine jv_aload_n rfl rfl rfl (by decide) ?_
          refine jv_iconst rfl rfl ?_
          refine jv_callV1 rfl rfl rfl rfl ⟨by decide, rfl⟩ (Nat.le_of_ble_eq_true rfl) (cl_found (by omega) (fun μ21 eμ21 => ?_))
          show jV _ _ jm_p_X9_as _ 22 [some (.inr (.inr 0)), some (.inl c), some (.inl k)] [.inl (-1000010 - 3)] μ21
          refine jv_ireturn rfl (Or.inl rfl) ?_
          refine ⟨_, rfl, ?_⟩
          have g95 : μ21 95 = μ 95 := by rw [eμ21]; rfl
          have g01 : μ21 95 1 = μ 95 1 := by rw [g95]
          have g32 : μ21 95 (32 + c) = μ 95 (32 + c) := by rw [g95]
          refine jv_enter (d := 199) jm_p_X10_as [some (.inr (.inr 94)), some (.inl c), some (.inl k)] rfl rfl rfl (Nat.le_of_ble_eq_true rfl) rfl rfl ?_
          refine jv_aload_n rfl rfl rfl (by decide) ?_
          refine jv_iload_n rfl rfl rfl ?_
          refine jv_callV1 rfl rfl rfl rfl ⟨by decide, rfl⟩ (Nat.le_of_ble_eq_true rfl) (mo_isComer (by omega) (fun b2 => ?_) (fun b2 => ?_))
          · first
            | (exfalso; omega)
            | skip
              show jV _ _ jm_p_X10_as _ 3 [some (.inr (.inr 94)), some (.inl c), some (.inl k)] [.inl 1] μ21
              refine jv_if_eqF rfl rfl (by decide) ?_
              refine jv_iload_n rfl rfl rfl ?_
              refine jv_i2l rfl rfl ?_
              refine jv_lconst rfl rfl ?_
              refine jv_ldc2_w rfl rfl ?_
              refine jv_callS3 rfl rfl rfl (Nat.le_of_ble_eq_true rfl) (mo_in (fun b8 => ?_) (fun b8 => ?_))
              · first
                | (exfalso; omega)
                | skip
                  show jV _ _ jm_p_X10_as _ 9 [some (.inr (.inr 94)), some (.inl c), some (.inl k)] [.inl 1] μ21
                  refine jv_if_neT rfl rfl (by decide) ?_
                  refine jv_aload_n rfl rfl rfl (by decide) ?_
                  refine jv_iload_n rfl rfl rfl ?_
                  refine jv_iload_n rfl rfl rfl ?_
                  refine jv_callV2 rfl rfl rfl rfl ⟨by decide, rfl⟩ (Nat.le_of_ble_eq_true rfl) (mo_isOf (so := μ 95 (32 + c)) (by omega) (by first | rfl | exact g32) (fun b15 => ?_) (fun b15 => ?_))
                  · first
                    | (exfalso; omega)
                    | skip
                      show jV _ _ jm_p_X10_as _ 16 [some (.inr (.inr 94)), some (.inl c), some (.inl k)] [.inl 1] μ21
                      refine jv_if_eqF rfl rfl (by decide) ?_
                      refine jv_aload_n rfl rfl rfl (by decide) ?_
                      refine jv_iload_n rfl rfl rfl ?_
                      refine jv_callV1 rfl rfl rfl rfl ⟨by decide, rfl⟩ (Nat.le_of_ble_eq_true rfl) (mo_well (fun ν19 eν19 => ?_))
                      show jV _ _ jm_p_X10_as _ 20 [some (.inr (.inr 94)), some (.inl c), some (.inl k)] [.inl c] ν19
                      refine jv_goto rfl rfl ?_
                      refine jv_ireturn rfl (Or.inl rfl) ?_
                      exact ⟨jv_one (by omega), jI_find hI eμ21 eν19⟩
                  · first
                    | (exfalso; omega)
                    | skip
                      show jV _ _ jm_p_X10_as _ 16 [some (.inr (.inr 94)), some (.inl c), some (.inl k)] [.inl 0] μ21
                      refine jv_if_eqT rfl rfl (by decide) ?_
                      refine jv_aload_n rfl rfl rfl (by decide) ?_
                      refine jv_iconst rfl rfl ?_
                      refine jv_callV1 rfl rfl rfl rfl ⟨by decide, rfl⟩ (Nat.le_of_ble_eq_true rfl) (mo_find (by omega) (fun ν23 eν23 => ?_))
                      show jV _ _ jm_p_X10_as _ 24 [some (.inr (.inr 94)), some (.inl c), some (.inl k)] [.inl (-1000010 - 3)] ν23
                      refine jv_ireturn rfl (Or.inl rfl) ?_
                      exact ⟨jv_one (by omega), jI_find hI eμ21 eν23⟩
              · first
                | (exfalso; omega)
                | skip
                  show jV _ _ jm_p_X10_as _ 9 [some (.inr (.inr 94)), some (.inl c), some (.inl k)] [.inl 0] μ21
                  refine jv_if_neF rfl rfl (by decide) ?_
                  refine jv_ldc rfl rfl ?_
                  refine jv_ireturn rfl (Or.inl rfl) ?_
                  exfalso; omega
          · first
            | (exfalso; omega)
            | skip
              show jV _ _ jm_p_X10_as _ 3 [some (.inr (.inr 94)), some (.inl c), some (.inl k)] [.inl 0] μ21
              refine jv_if_eqT rfl rfl (by decide) ?_
              refine jv_ldc rfl rfl ?_
              refine jv_ireturn rfl (Or.inl rfl) ?_
              exfalso; omega
      · refine jv_ldc rfl rfl ?_
        refine jv_ireturn rfl (Or.inl rfl) ?_
        refine ⟨_, rfl, ?_⟩
        skip
        refine jv_enter (d := 199) jm_p_X10_as [some (.inr (.inr 94)), some (.inl c), some (.inl k)] rfl rfl rfl (Nat.le_of_ble_eq_true rfl) rfl rfl ?_
        refine jv_aload_n rfl rfl rfl (by decide) ?_
        refine jv_iload_n rfl rfl rfl ?_
        refine jv_callV1 rfl rfl rfl rfl ⟨by decide, rfl⟩ (Nat.le_of_ble_eq_true rfl) (mo_isComer (by omega) (fun b2 => ?_) (fun b2 => ?_))
        · first
          | (exfalso; omega)
          | skip
            show jV _ _ jm_p_X10_as _ 3 [some (.inr (.inr 94)), some (.inl c), some (.inl k)] [.inl 1] μ
            refine jv_if_eqF rfl rfl (by decide) ?_
            refine jv_iload_n rfl rfl rfl ?_
            refine jv_i2l rfl rfl ?_
            refine jv_lconst rfl rfl ?_
            refine jv_ldc2_w rfl rfl ?_
            refine jv_callS3 rfl rfl rfl (Nat.le_of_ble_eq_true rfl) (mo_in (fun b8 => ?_) (fun b8 => ?_))
            · first
              | (exfalso; omega)
              | skip
                show jV _ _ jm_p_X10_as _ 9 [some (.inr (.inr 94)), some (.inl c), some (.inl k)] [.inl 1] μ
                refine jv_if_neT rfl rfl (by decide) ?_
                refine jv_aload_n rfl rfl rfl (by decide) ?_
                refine jv_iload_n rfl rfl rfl ?_
                refine jv_iload_n rfl rfl rfl ?_
                refine jv_callV2 rfl rfl rfl rfl ⟨by decide, rfl⟩ (Nat.le_of_ble_eq_true rfl) (mo_isOf (so := μ 95 (32 + c)) (by omega) (by first | rfl | exact g32) (fun b15 => ?_) (fun b15 => ?_))
                · first
                  | (exfalso; omega)
                  | skip
                    show jV _ _ jm_p_X10_as _ 16 [some (.inr (.inr 94)), some (.inl c), some (.inl k)] [.inl 1] μ
                    refine jv_if_eqF rfl rfl (by decide) ?_
                    refine jv_aload_n rfl rfl rfl (by decide) ?_
                    refine jv_iload_n rfl rfl rfl ?_
                    refine jv_callV1 rfl rfl rfl rfl ⟨by decide, rfl⟩ (Nat.le_of_ble_eq_true rfl) (mo_well (fun ν19 eν19 => ?_))
                    show jV _ _ jm_p_X10_as _ 20 [some (.inr (.inr 94)), some (.inl c), some (.inl k)] [.inl c] ν19
                    refine jv_goto rfl rfl ?_
                    refine jv_ireturn rfl (Or.inl rfl) ?_
                    exfalso; omega
                · first
                  | (exfalso; omega)
                  | skip
                    show jV _ _ jm_p_X10_as _ 16 [some (.inr (.inr 94)), some (.inl c), some (.inl k)] [.inl 0] μ
                    refine jv_if_eqT rfl rfl (by decide) ?_
                    refine jv_aload_n rfl rfl rfl (by decide) ?_
                    refine jv_iconst rfl rfl ?_
                    refine jv_callV1 rfl rfl rfl rfl ⟨by decide, rfl⟩ (Nat.le_of_ble_eq_true rfl) (mo_find (by omega) (fun ν23 eν23 => ?_))
                    show jV _ _ jm_p_X10_as _ 24 [some (.inr (.inr 94)), some (.inl c), some (.inl k)] [.inl (-1000010 - 3)] ν23
                    refine jv_ireturn rfl (Or.inl rfl) ?_
                    exfalso; omega
            · first
              | (exfalso; omega)
              | skip
                show jV _ _ jm_p_X10_as _ 9 [some (.inr (.inr 94)), some (.inl c), some (.inl k)] [.inl 0] μ
                refine jv_if_neF rfl rfl (by decide) ?_
                refine jv_ldc rfl rfl ?_
                refine jv_ireturn rfl (Or.inl rfl) ?_
                exact ⟨jv_one (by omega), hI⟩
        · first
          | (exfalso; omega)
          | skip
            show jV _ _ jm_p_X10_as _ 3 [some (.inr (.inr 94)), some (.inl c), some (.inl k)] [.inl 0] μ
            refine jv_if_eqT rfl rfl (by decide) ?_
            refine jv_ldc rfl rfl ?_
            refine jv_ireturn rfl (Or.inl rfl) ?_
            exact ⟨jv_one (by omega), hI⟩
def jcn (p : Int → Prop) : Nat → Int → Prop
  | 0, y => y = 0
  | k + 1, y => ∃ z, jcn p k z ∧ ((p k ∧ y = z + 1) ∨ (¬ p k ∧ y = z))
theorem jcn_r {p : Int → Prop} : ∀ (k : Nat) (y : Int), jcn p k y → 0 ≤ y ∧ y ≤ k
  | 0, y, h => by
    have e : y = 0 := h
    omega
  | k + 1, y, h => by
    obtain ⟨z, h1, h2⟩ := h
    have i := jcn_r k z h1
    omega
theorem jcn_one {p q : Int → Prop} : ∀ (k : Nat) (y y' : Int), (∀ x : Int, 0 ≤ x → x < k → (p x ↔ q x)) → jcn p k y → jcn q k y' → y = y'
  | 0, y, y', _, h, h' => by
    have e : y = 0 := h
    have e' : y' = 0 := h'
    omega
  | k + 1, y, y', hp, h, h' => by
    obtain ⟨z, h1, h2⟩ := h
    obtain ⟨z', h1', h2'⟩ := h'
    have e := jcn_one k z z' (fun x a b => hp x a (by omega)) h1 h1'
    have hk := hp k (by omega) (by omega)
    rcases h2 with ⟨a1, a2⟩ | ⟨a1, a2⟩ <;> rcases h2' with ⟨b1, b2⟩ | ⟨b1, b2⟩
    · omega
    · exact absurd (hk.1 a1) b1
    · exact absurd (hk.2 b1) a1
    · omega
theorem jsum_r9 {F : Int → Int} : ∀ k : Nat, (∀ x : Nat, x < k → 0 ≤ F x ∧ F x ≤ 999) → 0 ≤ jsum F k ∧ jsum F k ≤ 999 * k
  | 0, _ => ⟨Int.le_refl _, Int.le_refl _⟩
  | k + 1, h => by
    simp only [jsum]
    have a := h k (by omega)
    have i := jsum_r9 k (fun x q => h x (by omega))
    omega
set_option maxRecDepth 10000 in
theorem cl_present_l {X : jm_X} {d : Nat} {Q : jv_P}  {μ : jm_M}  (k : ∀ y, jcn (fun r => ¬ μ 4 r = -1) 8 y → Q [.inl y] μ) : ∀ (n : Nat) (y w : Int), 0 ≤ w → w ≤ 8 → 8 - w < n → jcn (fun r => ¬ μ 4 r = -1) w.toNat y → jV X (d + 1) jm_p_X7_present Q 4 [some (.inr (.inr 1)), some (.inl y), some (.inl w)] [] μ := by
  intro n
  induction n with
  | zero => intro y w y0 y1 yn hy; exfalso; omega
  | succ n ih =>
    intro y w y0 y1 yn hy
    have hr := jcn_r _ _ hy
    refine jv_iload_n rfl rfl rfl ?_
    refine jv_bipush rfl rfl ?_
    refine jv_icmp_ge rfl rfl rfl (fun c6 => ?_) (fun c6 => ?_)
    · refine jv_iload_n rfl rfl rfl ?_
      refine jv_ireturn rfl (Or.inl rfl) ?_
      have hx : w = 8 := by omega
      rw [hx] at hy
      exact k _ hy
    · refine jv_aload_n rfl rfl rfl (by decide) ?_
      refine jv_iload_n rfl rfl rfl ?_
      refine jv_callV1 rfl rfl rfl rfl ⟨by decide, rfl⟩ (Nat.le_of_ble_eq_true rfl) (cl_isMissing (by omega) (fun b9 => ?_) (fun b9 => ?_))
      · show jV _ _ jm_p_X7_present _ 10 [some (.inr (.inr 1)), some (.inl y), some (.inl w)] [.inl 1] μ
        refine jv_if_neT rfl rfl (by decide) ?_
        refine jv_iinc (fun x => [some (.inr (.inr 1)), some (.inl y), some (.inl x)]) rfl rfl rfl ⟨by omega, by omega⟩ (fun _ => rfl) (fun x2_12 ex2_12 => ?_)
        refine jv_goto rfl rfl ?_
        refine ih y x2_12 (by omega) (by omega) (by omega) ?_
        rw [ex2_12, show (w + 1).toNat = w.toNat + 1 by omega]
        refine ⟨y, hy, ?_⟩
        rw [show ((w.toNat : Nat) : Int) = w by omega]
        first
        | exact Or.inl ⟨by omega, by omega⟩
        | exact Or.inr ⟨by omega, by omega⟩
      · show jV _ _ jm_p_X7_present _ 10 [some (.inr (.inr 1)), some (.inl y), some (.inl w)] [.inl 0] μ
        refine jv_if_neF rfl rfl (by decide) ?_
        refine jv_iinc (fun x => [some (.inr (.inr 1)), some (.inl x), some (.inl w)]) rfl rfl rfl ⟨by omega, by omega⟩ (fun _ => rfl) (fun x1_11 ex1_11 => ?_)
        refine jv_iinc (fun x => [some (.inr (.inr 1)), some (.inl x1_11), some (.inl x)]) rfl rfl rfl ⟨by omega, by omega⟩ (fun _ => rfl) (fun x2_12_1 ex2_12_1 => ?_)
        refine jv_goto rfl rfl ?_
        refine ih x1_11 x2_12_1 (by omega) (by omega) (by omega) ?_
        rw [ex2_12_1, show (w + 1).toNat = w.toNat + 1 by omega]
        refine ⟨y, hy, ?_⟩
        rw [show ((w.toNat : Nat) : Int) = w by omega]
        first
        | exact Or.inl ⟨by omega, by omega⟩
        | exact Or.inr ⟨by omega, by omega⟩
set_option maxRecDepth 10000 in
theorem cl_present {X : jm_X} {d : Nat} {Q : jv_P} {μ : jm_M}  (k : ∀ y, jcn (fun r => ¬ μ 4 r = -1) 8 y → Q [.inl y] μ) : cV X (d + 2) 81 [.inr (.inr 1)] μ Q := by
  refine jv_enter (d := d + 1) jm_p_X7_present [some (.inr (.inr 1)), none, none] rfl rfl rfl (Nat.le_of_ble_eq_true rfl) rfl rfl ?_
  refine jv_iconst rfl rfl ?_
  refine jv_istore_nK (L2 := [some (.inr (.inr 1)), some (.inl 0), none]) rfl rfl rfl ?_
  refine jv_iconst rfl rfl ?_
  refine jv_istore_nK (L2 := [some (.inr (.inr 1)), some (.inl 0), some (.inl 0)]) rfl rfl rfl ?_
  exact cl_present_l k 9 0 0 (by omega) (by omega) (by omega) rfl
set_option maxRecDepth 10000 in
theorem mo_count_l {X : jm_X} {d : Nat} {Q : jv_P} {wh : Int} {μ : jm_M}  (k : ∀ y, jcn (fun r => ¬ μ 98 r < 0) 8 y → Q [.inl y] μ) : ∀ (n : Nat) (y w : Int), 0 ≤ w → w ≤ 8 → 8 - w < n → jcn (fun r => ¬ μ 98 r < 0) w.toNat y → jV X (d + 1) jm_p_X10_count Q 6 [some (.inr (.inr 94)), some (.inl wh), some (.inl y), some (.inl w)] [] μ := by
  intro n
  induction n with
  | zero => intro y w y0 y1 yn hy; exfalso; omega
  | succ n ih =>
    intro y w y0 y1 yn hy
    have hr := jcn_r _ _ hy
    refine jv_iload_n rfl rfl rfl ?_
    refine jv_bipush rfl rfl ?_
    refine jv_icmp_ge rfl rfl rfl (fun c8 => ?_) (fun c8 => ?_)
    · refine jv_iload_n rfl rfl rfl ?_
      refine jv_ireturn rfl (Or.inl rfl) ?_
      have hx : w = 8 := by omega
      rw [hx] at hy
      exact k _ hy
    · refine jv_iload_n rfl rfl rfl ?_
      refine jv_aload_n rfl rfl rfl (by decide) ?_
      refine jv_getr (w := 98) rfl rfl rfl ⟨by decide, rfl⟩ rfl rfl ?_
      refine jv_iload_n rfl rfl rfl ?_
      refine jv_iaload rfl rfl (by decide) rfl ⟨by omega, by omega⟩ ?_
      refine jv_if_ge rfl rfl rfl (fun c14 => ?_) (fun c14 => ?_)
      · refine jv_iconst rfl rfl ?_
        refine jv_iadd rfl rfl ⟨by omega, by omega⟩ ?_
        refine jv_istore_n (fun x => [some (.inr (.inr 94)), some (.inl wh), some (.inl x), some (.inl w)]) rfl rfl (fun _ => rfl) (fun x2_19 ex2_19 => ?_)
        refine jv_iinc (fun x => [some (.inr (.inr 94)), some (.inl wh), some (.inl x2_19), some (.inl x)]) rfl rfl rfl ⟨by omega, by omega⟩ (fun _ => rfl) (fun x3_20 ex3_20 => ?_)
        refine jv_goto rfl rfl ?_
        refine ih x2_19 x3_20 (by omega) (by omega) (by omega) ?_
        rw [ex3_20, show (w + 1).toNat = w.toNat + 1 by omega]
        refine ⟨y, hy, ?_⟩
        rw [show ((w.toNat : Nat) : Int) = w by omega]
        first
        | exact Or.inl ⟨by omega, by omega⟩
        | exact Or.inr ⟨by omega, by omega⟩
      · refine jv_iconst rfl rfl ?_
        refine jv_goto rfl rfl ?_
        refine jv_iadd rfl rfl ⟨by omega, by omega⟩ ?_
        refine jv_istore_n (fun x => [some (.inr (.inr 94)), some (.inl wh), some (.inl x), some (.inl w)]) rfl rfl (fun _ => rfl) (fun x2_19_1 ex2_19_1 => ?_)
        refine jv_iinc (fun x => [some (.inr (.inr 94)), some (.inl wh), some (.inl x2_19_1), some (.inl x)]) rfl rfl rfl ⟨by omega, by omega⟩ (fun _ => rfl) (fun x3_20_1 ex3_20_1 => ?_)
        refine jv_goto rfl rfl ?_
        refine ih x2_19_1 x3_20_1 (by omega) (by omega) (by omega) ?_
        rw [ex3_20_1, show (w + 1).toNat = w.toNat + 1 by omega]
        refine ⟨y, hy, ?_⟩
        rw [show ((w.toNat : Nat) : Int) = w by omega]
        first
        | exact Or.inl ⟨by omega, by omega⟩
        | exact Or.inr ⟨by omega, by omega⟩
set_option maxRecDepth 10000 in
theorem cl_hAll_l {X : jm_X} {d : Nat} {Q : jv_P} {t : Int → Int} {μ : jm_M} (hHμ : jH μ t) (k : Q [.inl (jall t (t 0).toNat)] μ) : ∀ (n : Nat) (y w : Int), 0 ≤ w → w ≤ t 0 → t 0 - w < n → y = jall t w.toNat → jV X (d + 1) jm_p_X4_lyingInAll Q 4 [some (.inr (.inr 7)), some (.inl y), some (.inl w)] [] μ := by
  have hw := hHμ.1
  obtain ⟨w0, w1, w2, w3, w4, w6, w7, w8⟩ := id hw
  have n2μ := jH_2 hHμ
  have rm' : ∀ m, 0 ≤ m → m < t 0 → μ (μ 8 m) 0 = t (4 + m) ∧ ∀ k, 0 ≤ k → k < 6 → μ (μ 8 m + 1) k = t (8 + 6 * m + k) := hHμ.2.2.2.2.1
  intro n
  induction n with
  | zero => intro y w y0 y1 yn ey; exfalso; omega
  | succ n ih =>
    intro y w y0 y1 yn ey
    have hr := jall_r hw w.toNat (by omega)
    have hj : w < t 0 → 0 ≤ jt_lies t w ∧ jt_lies t w ≤ t 2 := fun q => jt_lies_r hw y0 (by omega)
    have he : w < t 0 → μ (μ 8 w + 1) 0 + μ (μ 8 w + 1) 1 + μ (μ 8 w + 1) 2 + μ (μ 8 w + 1) 3 + μ (μ 8 w + 1) 4 + μ (μ 8 w + 1) 5 = jt_lies t w := fun q => by
      have e := (rm' w y0 q).2
      rw [e 0 (by decide) (by decide), e 1 (by decide) (by decide), e 2 (by decide) (by decide), e 3 (by decide) (by decide), e 4 (by decide) (by decide), e 5 (by decide) (by decide), Int.add_zero]
      rfl
    have hv : w < t 0 → ∀ j, 0 ≤ j → j < 6 → 0 ≤ μ (μ 8 w + 1) j ∧ μ (μ 8 w + 1) j ≤ 60 := fun q j j0 j1 => by
      rw [(rm' w y0 q).2 j j0 j1]
      exact w6 _ (by omega) (by omega)
    refine jv_iload_n rfl rfl rfl ?_
    refine jv_aload_n rfl rfl rfl (by decide) ?_
    refine jv_geti rfl rfl rfl ⟨by decide, rfl⟩ (by decide) ?_
    refine jv_icmp_ge rfl rfl rfl (fun c7 => ?_) (fun c7 => ?_)
    · refine jv_iload_n rfl rfl rfl ?_
      refine jv_ireturn rfl (Or.inl rfl) ?_
      have hx : w = t 0 := by omega
      rw [ey, hx]
      exact k
    · refine jv_iload_n rfl rfl rfl ?_
      refine jv_aload_n rfl rfl rfl (by decide) ?_
      refine jv_getr (w := 8) rfl rfl rfl ⟨by decide, rfl⟩ rfl rfl ?_
      refine jv_iload_n rfl rfl rfl ?_
      refine jv_aaload rfl rfl rfl ⟨by decide, by decide, by decide⟩ ⟨by omega, by omega⟩ ?_
      refine jv_callV0 rfl rfl rfl (jz_mat7 hHμ.2.2.1 (m := w) (by omega) (by omega)).1 ⟨(jz_mat7 hHμ.2.2.1 (m := w) (by omega) (by omega)).2.2.1, rfl⟩ (Nat.le_of_ble_eq_true rfl) (cl_lying (jz_mat7 hHμ.2.2.1 (m := w) (by omega) (by omega)) (hv (by omega)) ?_)
      rw [he (by omega)]
      show jV _ _ jm_p_X4_lyingInAll _ 14 [some (.inr (.inr 7)), some (.inl y), some (.inl w)] [.inl (jt_lies t w), .inl y] μ
      refine jv_iadd rfl rfl ⟨by omega, by omega⟩ ?_
      refine jv_istore_n (fun x => [some (.inr (.inr 7)), some (.inl x), some (.inl w)]) rfl rfl (fun _ => rfl) (fun x1_15 ex1_15 => ?_)
      refine jv_iinc (fun x => [some (.inr (.inr 7)), some (.inl x1_15), some (.inl x)]) rfl rfl rfl ⟨by omega, by omega⟩ (fun _ => rfl) (fun x2_16 ex2_16 => ?_)
      refine jv_goto rfl rfl ?_
      refine ih x1_15 x2_16 (by omega) (by omega) (by omega) ?_
      rw [ex2_16, show (w + 1).toNat = w.toNat + 1 by omega]
      simp only [jall]
      rw [show ((w.toNat : Nat) : Int) = w by omega, ex1_15, ← ey]
set_option maxRecDepth 10000 in
theorem cl_hAll {X : jm_X} {d : Nat} {Q : jv_P} {μ : jm_M} {t : Int → Int} (hHμ : jH μ t) (k : Q [.inl (jall t (t 0).toNat)] μ) : cV X (d + 2) 49 [.inr (.inr 7)] μ Q := by
  refine jv_enter (d := d + 1) jm_p_X4_lyingInAll [some (.inr (.inr 7)), none, none] rfl rfl rfl (Nat.le_of_ble_eq_true rfl) rfl rfl ?_
  refine jv_iconst rfl rfl ?_
  refine jv_istore_nK (L2 := [some (.inr (.inr 7)), some (.inl 0), none]) rfl rfl rfl ?_
  refine jv_iconst rfl rfl ?_
  refine jv_istore_nK (L2 := [some (.inr (.inr 7)), some (.inl 0), some (.inl 0)]) rfl rfl rfl ?_
  exact cl_hAll_l hHμ k 9 0 0 (by omega) hHμ.1.1.1 (by have := hHμ.1.1.2; omega) rfl
set_option maxRecDepth 10000 in
theorem cl_comings_l {X : jm_X} {d : Nat} {Q : jv_P} {t : Int → Int} {μ : jm_M} (hHμ : jH μ t) (h1 : 0 ≤ t 1 ∧ t 1 ≤ 6) (hcf : jt_cf t 999) (k : Q [.inl (jsum (fun c => t (56 + c)) (t 1).toNat)] μ) : ∀ (n : Nat) (y w : Int), 0 ≤ w → w ≤ t 1 → t 1 - w < n → y = jsum (fun c => t (56 + c)) w.toNat → jV X d jm_p_X4_comings Q 4 [some (.inr (.inr 7)), some (.inl y), some (.inl w)] [] μ := by
  intro n
  induction n with
  | zero => intro y w y0 y1 yn ey; exfalso; omega
  | succ n ih =>
    intro y w y0 y1 yn ey
    have hr := jsum_r9 (F := (fun c => t (56 + c))) w.toNat (fun x q => hcf x (by omega) (by omega))
    have hq : w < t 1 → 0 ≤ t (56 + w) ∧ t (56 + w) ≤ 999 := fun q => hcf w y0 (by omega)
    have n3μ := jH_3 hHμ
    have hv : w < t 1 → μ (18 + w) 4 = t (56 + w) := fun q => (hHμ.2.2.2.2.2.2 w y0 q).2.2.2.2
    refine jv_iload_n rfl rfl rfl ?_
    refine jv_aload_n rfl rfl rfl (by decide) ?_
    refine jv_geti rfl rfl rfl ⟨by decide, rfl⟩ (by decide) ?_
    refine jv_icmp_ge rfl rfl rfl (fun c7 => ?_) (fun c7 => ?_)
    · refine jv_iload_n rfl rfl rfl ?_
      refine jv_ireturn rfl (Or.inl rfl) ?_
      have hx : w = t 1 := by omega
      rw [ey, hx]
      exact k
    · refine jv_iload_n rfl rfl rfl ?_
      refine jv_aload_n rfl rfl rfl (by decide) ?_
      refine jv_getr (w := 9) rfl rfl rfl ⟨by decide, rfl⟩ rfl rfl ?_
      refine jv_iload_n rfl rfl rfl ?_
      refine jv_aaloadv (v := 18 + w) rfl rfl rfl ⟨by decide, by decide, by decide⟩ ⟨by omega, by omega⟩ (jH_com hHμ (by omega) (by omega)) ?_
      refine jv_geti rfl rfl (jz_com7 (by omega) (by omega)).1 ⟨by omega, rfl⟩ (by decide) ?_
      refine jv_iadd rfl rfl ⟨by omega, by omega⟩ ?_
      refine jv_istore_n (fun x => [some (.inr (.inr 7)), some (.inl x), some (.inl w)]) rfl rfl (fun _ => rfl) (fun x1_15 ex1_15 => ?_)
      refine jv_iinc (fun x => [some (.inr (.inr 7)), some (.inl x1_15), some (.inl x)]) rfl rfl rfl ⟨by omega, by omega⟩ (fun _ => rfl) (fun x2_16 ex2_16 => ?_)
      refine jv_goto rfl rfl ?_
      refine ih x1_15 x2_16 (by omega) (by omega) (by omega) ?_
      rw [ex2_16, show (w + 1).toNat = w.toNat + 1 by omega]
      simp only [jsum]
      rw [show ((w.toNat : Nat) : Int) = w by omega, ex1_15, ← ey, hv (by omega)]
set_option maxRecDepth 10000 in
theorem cl_comings {X : jm_X} {d : Nat} {Q : jv_P} {μ : jm_M} {t : Int → Int} (hHμ : jH μ t) (hcf : jt_cf t 999) (k : Q [.inl (jsum (fun c => t (56 + c)) (t 1).toNat)] μ) : cV X (d + 1) 50 [.inr (.inr 7)] μ Q := by
  refine jv_enter (d := d + 0) jm_p_X4_comings [some (.inr (.inr 7)), none, none] rfl rfl rfl (Nat.le_of_ble_eq_true rfl) rfl rfl ?_
  refine jv_iconst rfl rfl ?_
  refine jv_istore_nK (L2 := [some (.inr (.inr 7)), some (.inl 0), none]) rfl rfl rfl ?_
  refine jv_iconst rfl rfl ?_
  refine jv_istore_nK (L2 := [some (.inr (.inr 7)), some (.inl 0), some (.inl 0)]) rfl rfl rfl ?_
  exact cl_comings_l hHμ hHμ.1.2.1 hcf k 9 0 0 (by omega) hHμ.1.2.1.1 (by have := hHμ.1.2.1.2; omega) rfl
set_option maxRecDepth 10000 in
theorem mo_comings_l {X : jm_X} {d : Nat} {Q : jv_P} {t : Int → Int} {μ : jm_M} (hU : jU μ t) (h1 : 0 ≤ t 1 ∧ t 1 ≤ 6) (hcf : jt_cf t 999) (k : Q [.inl (jsum (fun c => t (56 + c)) (t 1).toNat)] μ) : ∀ (n : Nat) (y w : Int), 0 ≤ w → w ≤ t 1 → t 1 - w < n → y = jsum (fun c => t (56 + c)) w.toNat → jV X d jm_p_X10_comings Q 4 [some (.inr (.inr 94)), some (.inl y), some (.inl w)] [] μ := by
  intro n
  induction n with
  | zero => intro y w y0 y1 yn ey; exfalso; omega
  | succ n ih =>
    intro y w y0 y1 yn ey
    have hr := jsum_r9 (F := (fun c => t (56 + c))) w.toNat (fun x q => hcf x (by omega) (by omega))
    have hq : w < t 1 → 0 ≤ t (56 + w) ∧ t (56 + w) ≤ 999 := fun q => hcf w y0 (by omega)
    have u1 := hU 1 (by decide) (by decide)
    have hv : w < t 1 → μ 95 (56 + w) = t (56 + w) := fun q => hU (56 + w) (by omega) (by omega)
    refine jv_iload_n rfl rfl rfl ?_
    refine jv_aload_n rfl rfl rfl (by decide) ?_
    refine jv_getr (w := 95) rfl rfl rfl ⟨by decide, rfl⟩ rfl rfl ?_
    refine jv_iconst rfl rfl ?_
    refine jv_iaload rfl rfl (by decide) rfl ⟨by omega, by omega⟩ ?_
    refine jv_icmp_ge rfl rfl rfl (fun c9 => ?_) (fun c9 => ?_)
    · refine jv_iload_n rfl rfl rfl ?_
      refine jv_ireturn rfl (Or.inl rfl) ?_
      have hx : w = t 1 := by omega
      rw [ey, hx]
      exact k
    · refine jv_iload_n rfl rfl rfl ?_
      refine jv_aload_n rfl rfl rfl (by decide) ?_
      refine jv_getr (w := 95) rfl rfl rfl ⟨by decide, rfl⟩ rfl rfl ?_
      refine jv_bipush rfl rfl ?_
      refine jv_iload_n rfl rfl rfl ?_
      refine jv_iadd rfl rfl ⟨by omega, by omega⟩ ?_
      refine jv_iaload rfl rfl (by decide) rfl ⟨by omega, by omega⟩ ?_
      refine jv_iadd rfl rfl ⟨by omega, by omega⟩ ?_
      refine jv_istore_n (fun x => [some (.inr (.inr 94)), some (.inl x), some (.inl w)]) rfl rfl (fun _ => rfl) (fun x1_18 ex1_18 => ?_)
      refine jv_iinc (fun x => [some (.inr (.inr 94)), some (.inl x1_18), some (.inl x)]) rfl rfl rfl ⟨by omega, by omega⟩ (fun _ => rfl) (fun x2_19 ex2_19 => ?_)
      refine jv_goto rfl rfl ?_
      refine ih x1_18 x2_19 (by omega) (by omega) (by omega) ?_
      rw [ex2_19, show (w + 1).toNat = w.toNat + 1 by omega]
      simp only [jsum]
      rw [show ((w.toNat : Nat) : Int) = w by omega, ex1_18, ← ey, hv (by omega)]
set_option maxRecDepth 10000 in
theorem mo_comings {X : jm_X} {d : Nat} {Q : jv_P} {μ : jm_M} {t : Int → Int} (hU : jU μ t) (h1 : 0 ≤ t 1 ∧ t 1 ≤ 6) (hcf : jt_cf t 999) (k : Q [.inl (jsum (fun c => t (56 + c)) (t 1).toNat)] μ) : cV X (d + 1) 220 [.inr (.inr 94)] μ Q := by
  refine jv_enter (d := d + 0) jm_p_X10_comings [some (.inr (.inr 94)), none, none] rfl rfl rfl (Nat.le_of_ble_eq_true rfl) rfl rfl ?_
  refine jv_iconst rfl rfl ?_
  refine jv_istore_nK (L2 := [some (.inr (.inr 94)), some (.inl 0), none]) rfl rfl rfl ?_
  refine jv_iconst rfl rfl ?_
  refine jv_istore_nK (L2 := [some (.inr (.inr 94)), some (.inl 0), some (.inl 0)]) rfl rfl rfl ?_
  exact mo_comings_l hU h1 hcf k 9 0 0 (by omega) h1.1 (by omega) rfl
set_option maxRecDepth 10000 in
theorem cl_hsize {X : jm_X} {d : Nat} {Q : jv_P} {μ : jm_M}  (k : Q [.inl (μ 43 2)] μ) : cV X (d + 1) 33 [.inr (.inr 43)] μ Q := by
  refine jv_enter (d := d + 0) jm_p_X3_size [some (.inr (.inr 43))] rfl rfl rfl (Nat.le_of_ble_eq_true rfl) rfl rfl ?_
  refine jv_aload_n rfl rfl rfl (by decide) ?_
  refine jv_geti rfl rfl rfl ⟨by decide, rfl⟩ (by decide) ?_
  refine jv_ireturn rfl (Or.inl rfl) ?_
  exact k
set_option maxRecDepth 10000 in
theorem cl_rsize {X : jm_X} {d : Nat} {Q : jv_P} {μ : jm_M}  (k : Q [.inl (μ 5 1)] μ) : cV X (d + 1) 58 [.inr (.inr 5)] μ Q := by
  refine jv_enter (d := d + 0) jm_p_X6_size [some (.inr (.inr 5))] rfl rfl rfl (Nat.le_of_ble_eq_true rfl) rfl rfl ?_
  refine jv_aload_n rfl rfl rfl (by decide) ?_
  refine jv_geti rfl rfl rfl ⟨by decide, rfl⟩ (by decide) ?_
  refine jv_ireturn rfl (Or.inl rfl) ?_
  exact k
set_option maxRecDepth 10000 in
set_option maxHeartbeats 1000000 in
theorem pr_count {X : jm_X} {w : Int} (r_w : jm_r w) : jp X 122 221 [.inl w] := by
  intro μ hI
  obtain ⟨⟨hit, hlan⟩, ⟨ht0, ht1, ht2⟩, ⟨hr0, hr1, hr2⟩, ⟨hst, hfa⟩, htown, hidle, himg, hpast⟩ := id hI
  obtain ⟨hwf, hcf, hkd, hmat, hrel, hh01, hhot, hnc⟩ := id htown
  obtain ⟨⟨r0, r1, r2, r3⟩, rm, rz, rc⟩ := id hrel
  obtain ⟨w0, w1, w2, w3, w4, w6, w7, w8⟩ := id hwf
  have hHμ := jH_of hI
  have hp1 := hpast.2.1
  refine jv_enter (d := 199) jm_p_X9_count [some (.inr (.inr 0)), some (.inl w)] rfl rfl rfl (Nat.le_of_ble_eq_true rfl) rfl rfl ?_
  refine jv_iload_n rfl rfl rfl ?_
  refine jv_tsw rfl (And.intro (fun s1 => ?_) (fun ns1_7 => (And.intro (fun s1 => ?_) (fun ns1_6 => (And.intro (fun s1 => ?_) (fun ns1_5 => (And.intro (fun s1 => ?_) (fun ns1_4 => (And.intro (fun s1 => ?_) (fun ns1_3 => (And.intro (fun s1 => ?_) (fun ns1_2 => (And.intro (fun s1 => ?_) (fun ns1_1 => (And.intro (fun s1 => ?_) (fun ns1 => (jm_sw_1 ?_)))))))))))))))))
  · refine jv_aload_n rfl rfl rfl (by decide) ?_
    refine jv_getr (w := 1) rfl rfl rfl ⟨by decide, rfl⟩ rfl rfl ?_
    refine jv_callV0 rfl rfl rfl rfl ⟨by decide, rfl⟩ (Nat.le_of_ble_eq_true rfl) (cl_present (fun r4 hr4 => ?_))
    show jV _ _ jm_p_X9_count _ 5 [some (.inr (.inr 0)), some (.inl w)] [.inl r4] μ
    refine jv_ireturn rfl (Or.inl rfl) ?_
    refine ⟨_, rfl, ?_⟩
    refine jv_enter (d := 199) jm_p_X10_count [some (.inr (.inr 94)), some (.inl w), none, none] rfl rfl rfl (Nat.le_of_ble_eq_true rfl) rfl rfl ?_
    refine jv_iconst rfl rfl ?_
    refine jv_istore_nK (L2 := [some (.inr (.inr 94)), some (.inl w), some (.inl 0), none]) rfl rfl rfl ?_
    refine jv_iload_n rfl rfl rfl ?_
    refine jv_tsw rfl (And.intro (fun s3 => ?_) (fun ns3_7 => (And.intro (fun s3 => ?_) (fun ns3_6 => (And.intro (fun s3 => ?_) (fun ns3_5 => (And.intro (fun s3 => ?_) (fun ns3_4 => (And.intro (fun s3 => ?_) (fun ns3_3 => (And.intro (fun s3 => ?_) (fun ns3_2 => (And.intro (fun s3 => ?_) (fun ns3_1 => (And.intro (fun s3 => ?_) (fun ns3 => (jm_sw_1 ?_)))))))))))))))))
    · first
      | (exfalso; omega)
      | skip
        refine jv_iconst rfl rfl ?_
        refine jv_istore_nK (L2 := [some (.inr (.inr 94)), some (.inl w), some (.inl 0), some (.inl 0)]) rfl rfl rfl ?_
        refine mo_count_l (fun y2 hy2 => ?_) 9 0 0 (by omega) (by omega) (by omega) rfl
        exact ⟨jv_one (jcn_one _ _ _ (fun x a b => by have q := hlan x a b; show ¬ μ 98 x < 0 ↔ ¬ μ 4 x = -1; omega) hy2 hr4), hI⟩
    · first
      | (exfalso; omega)
      | skip
        refine jv_aload_n rfl rfl rfl (by decide) ?_
        refine jv_getr (w := 95) rfl rfl rfl ⟨by decide, rfl⟩ rfl rfl ?_
        refine jv_iconst rfl rfl ?_
        refine jv_iaload rfl rfl (by decide) rfl ⟨by omega, by omega⟩ ?_
        refine jv_ireturn rfl (Or.inl rfl) ?_
        exact ⟨jv_one (by omega), hI⟩
    · first
      | (exfalso; omega)
      | skip
        refine jv_aload_n rfl rfl rfl (by decide) ?_
        refine jv_getr (w := 95) rfl rfl rfl ⟨by decide, rfl⟩ rfl rfl ?_
        refine jv_iconst rfl rfl ?_
        refine jv_iaload rfl rfl (by decide) rfl ⟨by omega, by omega⟩ ?_
        refine jv_ireturn rfl (Or.inl rfl) ?_
        exact ⟨jv_one (by omega), hI⟩
    · first
      | (exfalso; omega)
      | skip
        refine jv_aload_n rfl rfl rfl (by decide) ?_
        refine jv_getr (w := 95) rfl rfl rfl ⟨by decide, rfl⟩ rfl rfl ?_
        refine jv_iconst rfl rfl ?_
        refine jv_iaload rfl rfl (by decide) rfl ⟨by omega, by omega⟩ ?_
        refine jv_ireturn rfl (Or.inl rfl) ?_
        exact ⟨jv_one (by omega), hI⟩
    · first
      | (exfalso; omega)
      | skip
        refine jv_aload_n rfl rfl rfl (by decide) ?_
        refine jv_iconst rfl rfl ?_
        refine jv_callV1 rfl rfl rfl rfl ⟨by decide, rfl⟩ (Nat.le_of_ble_eq_true rfl) (mo_onAll (T := μ 95) (by omega) (fun j _ _ => by rw [Int.zero_add]) hwf ?_)
        show jV _ _ jm_p_X10_count _ 42 [some (.inr (.inr 94)), some (.inl w), some (.inl 0), none] [.inl (jall (μ 95) (μ 95 0).toNat)] μ
        refine jv_ireturn rfl (Or.inl rfl) ?_
        exact ⟨jv_one (by omega), hI⟩
    · first
      | (exfalso; omega)
      | skip
        refine jv_aload_n rfl rfl rfl (by decide) ?_
        refine jv_callV0 rfl rfl rfl rfl ⟨by decide, rfl⟩ (Nat.le_of_ble_eq_true rfl) (mo_comings (t := μ 95) (fun _ _ _ => rfl) w1 hcf ?_)
        show jV _ _ jm_p_X10_count _ 45 [some (.inr (.inr 94)), some (.inl w), some (.inl 0), none] [.inl (jsum (fun c => μ 95 (56 + c)) (μ 95 1).toNat)] μ
        refine jv_ireturn rfl (Or.inl rfl) ?_
        exact ⟨jv_one (by omega), hI⟩
    · first
      | (exfalso; omega)
      | skip
        refine jv_aload_n rfl rfl rfl (by decide) ?_
        refine jv_geti rfl rfl rfl ⟨by decide, rfl⟩ (by decide) ?_
        refine jv_ireturn rfl (Or.inl rfl) ?_
        exact ⟨jv_one (by omega), hI⟩
    · first
      | (exfalso; omega)
      | skip
        refine jv_aload_n rfl rfl rfl (by decide) ?_
        refine jv_geti rfl rfl rfl ⟨by decide, rfl⟩ (by decide) ?_
        refine jv_ireturn rfl (Or.inl rfl) ?_
        exact ⟨jv_one (by omega), hI⟩
    · first
      | (exfalso; omega)
      | skip
        show jV _ _ jm_p_X10_count _ 52 [some (.inr (.inr 94)), some (.inl w), some (.inl 0), none] [] μ
        refine jv_ldc rfl rfl ?_
        refine jv_ireturn rfl (Or.inl rfl) ?_
        exact ⟨jv_one (by omega), hI⟩
  · refine jv_aload_n rfl rfl rfl (by decide) ?_
    refine jv_getr (w := 7) rfl rfl rfl ⟨by decide, rfl⟩ rfl rfl ?_
    refine jv_geti rfl rfl rfl ⟨by decide, rfl⟩ (by decide) ?_
    refine jv_ireturn rfl (Or.inl rfl) ?_
    refine ⟨_, rfl, ?_⟩
    refine jv_enter (d := 199) jm_p_X10_count [some (.inr (.inr 94)), some (.inl w), none, none] rfl rfl rfl (Nat.le_of_ble_eq_true rfl) rfl rfl ?_
    refine jv_iconst rfl rfl ?_
    refine jv_istore_nK (L2 := [some (.inr (.inr 94)), some (.inl w), some (.inl 0), none]) rfl rfl rfl ?_
    refine jv_iload_n rfl rfl rfl ?_
    refine jv_tsw rfl (And.intro (fun s3 => ?_) (fun ns3_7 => (And.intro (fun s3 => ?_) (fun ns3_6 => (And.intro (fun s3 => ?_) (fun ns3_5 => (And.intro (fun s3 => ?_) (fun ns3_4 => (And.intro (fun s3 => ?_) (fun ns3_3 => (And.intro (fun s3 => ?_) (fun ns3_2 => (And.intro (fun s3 => ?_) (fun ns3_1 => (And.intro (fun s3 => ?_) (fun ns3 => (jm_sw_1 ?_)))))))))))))))))
    · first
      | (exfalso; omega)
      | skip
        refine jv_iconst rfl rfl ?_
        refine jv_istore_nK (L2 := [some (.inr (.inr 94)), some (.inl w), some (.inl 0), some (.inl 0)]) rfl rfl rfl ?_
        refine mo_count_l (fun y2 hy2 => ?_) 9 0 0 (by omega) (by omega) (by omega) rfl
        exact ⟨jv_one (jcn_one _ _ _ (fun x a b => by have q := hlan x a b; show ¬ μ 98 x < 0 ↔ ¬ μ 4 x = -1; omega) hy2 hr4), hI⟩
    · first
      | (exfalso; omega)
      | skip
        refine jv_aload_n rfl rfl rfl (by decide) ?_
        refine jv_getr (w := 95) rfl rfl rfl ⟨by decide, rfl⟩ rfl rfl ?_
        refine jv_iconst rfl rfl ?_
        refine jv_iaload rfl rfl (by decide) rfl ⟨by omega, by omega⟩ ?_
        refine jv_ireturn rfl (Or.inl rfl) ?_
        exact ⟨jv_one (by omega), hI⟩
    · first
      | (exfalso; omega)
      | skip
        refine jv_aload_n rfl rfl rfl (by decide) ?_
        refine jv_getr (w := 95) rfl rfl rfl ⟨by decide, rfl⟩ rfl rfl ?_
        refine jv_iconst rfl rfl ?_
        refine jv_iaload rfl rfl (by decide) rfl ⟨by omega, by omega⟩ ?_
        refine jv_ireturn rfl (Or.inl rfl) ?_
        exact ⟨jv_one (by omega), hI⟩
    · first
      | (exfalso; omega)
      | skip
        refine jv_aload_n rfl rfl rfl (by decide) ?_
        refine jv_getr (w := 95) rfl rfl rfl ⟨by decide, rfl⟩ rfl rfl ?_
        refine jv_iconst rfl rfl ?_
        refine jv_iaload rfl rfl (by decide) rfl ⟨by omega, by omega⟩ ?_
        refine jv_ireturn rfl (Or.inl rfl) ?_
        exact ⟨jv_one (by omega), hI⟩
    · first
      | (exfalso; omega)
      | skip
        refine jv_aload_n rfl rfl rfl (by decide) ?_
        refine jv_iconst rfl rfl ?_
        refine jv_callV1 rfl rfl rfl rfl ⟨by decide, rfl⟩ (Nat.le_of_ble_eq_true rfl) (mo_onAll (T := μ 95) (by omega) (fun j _ _ => by rw [Int.zero_add]) hwf ?_)
        show jV _ _ jm_p_X10_count _ 42 [some (.inr (.inr 94)), some (.inl w), some (.inl 0), none] [.inl (jall (μ 95) (μ 95 0).toNat)] μ
        refine jv_ireturn rfl (Or.inl rfl) ?_
        exact ⟨jv_one (by omega), hI⟩
    · first
      | (exfalso; omega)
      | skip
        refine jv_aload_n rfl rfl rfl (by decide) ?_
        refine jv_callV0 rfl rfl rfl rfl ⟨by decide, rfl⟩ (Nat.le_of_ble_eq_true rfl) (mo_comings (t := μ 95) (fun _ _ _ => rfl) w1 hcf ?_)
        show jV _ _ jm_p_X10_count _ 45 [some (.inr (.inr 94)), some (.inl w), some (.inl 0), none] [.inl (jsum (fun c => μ 95 (56 + c)) (μ 95 1).toNat)] μ
        refine jv_ireturn rfl (Or.inl rfl) ?_
        exact ⟨jv_one (by omega), hI⟩
    · first
      | (exfalso; omega)
      | skip
        refine jv_aload_n rfl rfl rfl (by decide) ?_
        refine jv_geti rfl rfl rfl ⟨by decide, rfl⟩ (by decide) ?_
        refine jv_ireturn rfl (Or.inl rfl) ?_
        exact ⟨jv_one (by omega), hI⟩
    · first
      | (exfalso; omega)
      | skip
        refine jv_aload_n rfl rfl rfl (by decide) ?_
        refine jv_geti rfl rfl rfl ⟨by decide, rfl⟩ (by decide) ?_
        refine jv_ireturn rfl (Or.inl rfl) ?_
        exact ⟨jv_one (by omega), hI⟩
    · first
      | (exfalso; omega)
      | skip
        show jV _ _ jm_p_X10_count _ 52 [some (.inr (.inr 94)), some (.inl w), some (.inl 0), none] [] μ
        refine jv_ldc rfl rfl ?_
        refine jv_ireturn rfl (Or.inl rfl) ?_
        exact ⟨jv_one (by omega), hI⟩
  · refine jv_aload_n rfl rfl rfl (by decide) ?_
    refine jv_getr (w := 7) rfl rfl rfl ⟨by decide, rfl⟩ rfl rfl ?_
    refine jv_geti rfl rfl rfl ⟨by decide, rfl⟩ (by decide) ?_
    refine jv_ireturn rfl (Or.inl rfl) ?_
    refine ⟨_, rfl, ?_⟩
    refine jv_enter (d := 199) jm_p_X10_count [some (.inr (.inr 94)), some (.inl w), none, none] rfl rfl rfl (Nat.le_of_ble_eq_true rfl) rfl rfl ?_
    refine jv_iconst rfl rfl ?_
    refine jv_istore_nK (L2 := [some (.inr (.inr 94)), some (.inl w), some (.inl 0), none]) rfl rfl rfl ?_
    refine jv_iload_n rfl rfl rfl ?_
    refine jv_tsw rfl (And.intro (fun s3 => ?_) (fun ns3_7 => (And.intro (fun s3 => ?_) (fun ns3_6 => (And.intro (fun s3 => ?_) (fun ns3_5 => (And.intro (fun s3 => ?_) (fun ns3_4 => (And.intro (fun s3 => ?_) (fun ns3_3 => (And.intro (fun s3 => ?_) (fun ns3_2 => (And.intro (fun s3 => ?_) (fun ns3_1 => (And.intro (fun s3 => ?_) (fun ns3 => (jm_sw_1 ?_)))))))))))))))))
    · first
      | (exfalso; omega)
      | skip
        refine jv_iconst rfl rfl ?_
        refine jv_istore_nK (L2 := [some (.inr (.inr 94)), some (.inl w), some (.inl 0), some (.inl 0)]) rfl rfl rfl ?_
        refine mo_count_l (fun y2 hy2 => ?_) 9 0 0 (by omega) (by omega) (by omega) rfl
        exact ⟨jv_one (jcn_one _ _ _ (fun x a b => by have q := hlan x a b; show ¬ μ 98 x < 0 ↔ ¬ μ 4 x = -1; omega) hy2 hr4), hI⟩
    · first
      | (exfalso; omega)
      | skip
        refine jv_aload_n rfl rfl rfl (by decide) ?_
        refine jv_getr (w := 95) rfl rfl rfl ⟨by decide, rfl⟩ rfl rfl ?_
        refine jv_iconst rfl rfl ?_
        refine jv_iaload rfl rfl (by decide) rfl ⟨by omega, by omega⟩ ?_
        refine jv_ireturn rfl (Or.inl rfl) ?_
        exact ⟨jv_one (by omega), hI⟩
    · first
      | (exfalso; omega)
      | skip
        refine jv_aload_n rfl rfl rfl (by decide) ?_
        refine jv_getr (w := 95) rfl rfl rfl ⟨by decide, rfl⟩ rfl rfl ?_
        refine jv_iconst rfl rfl ?_
        refine jv_iaload rfl rfl (by decide) rfl ⟨by omega, by omega⟩ ?_
        refine jv_ireturn rfl (Or.inl rfl) ?_
        exact ⟨jv_one (by omega), hI⟩
    · first
      | (exfalso; omega)
      | skip
        refine jv_aload_n rfl rfl rfl (by decide) ?_
        refine jv_getr (w := 95) rfl rfl rfl ⟨by decide, rfl⟩ rfl rfl ?_
        refine jv_iconst rfl rfl ?_
        refine jv_iaload rfl rfl (by decide) rfl ⟨by omega, by omega⟩ ?_
        refine jv_ireturn rfl (Or.inl rfl) ?_
        exact ⟨jv_one (by omega), hI⟩
    · first
      | (exfalso; omega)
      | skip
        refine jv_aload_n rfl rfl rfl (by decide) ?_
        refine jv_iconst rfl rfl ?_
        refine jv_callV1 rfl rfl rfl rfl ⟨by decide, rfl⟩ (Nat.le_of_ble_eq_true rfl) (mo_onAll (T := μ 95) (by omega) (fun j _ _ => by rw [Int.zero_add]) hwf ?_)
        show jV _ _ jm_p_X10_count _ 42 [some (.inr (.inr 94)), some (.inl w), some (.inl 0), none] [.inl (jall (μ 95) (μ 95 0).toNat)] μ
        refine jv_ireturn rfl (Or.inl rfl) ?_
        exact ⟨jv_one (by omega), hI⟩
    · first
      | (exfalso; omega)
      | skip
        refine jv_aload_n rfl rfl rfl (by decide) ?_
        refine jv_callV0 rfl rfl rfl rfl ⟨by decide, rfl⟩ (Nat.le_of_ble_eq_true rfl) (mo_comings (t := μ 95) (fun _ _ _ => rfl) w1 hcf ?_)
        show jV _ _ jm_p_X10_count _ 45 [some (.inr (.inr 94)), some (.inl w), some (.inl 0), none] [.inl (jsum (fun c => μ 95 (56 + c)) (μ 95 1).toNat)] μ
        refine jv_ireturn rfl (Or.inl rfl) ?_
        exact ⟨jv_one (by omega), hI⟩
    · first
      | (exfalso; omega)
      | skip
        refine jv_aload_n rfl rfl rfl (by decide) ?_
        refine jv_geti rfl rfl rfl ⟨by decide, rfl⟩ (by decide) ?_
        refine jv_ireturn rfl (Or.inl rfl) ?_
        exact ⟨jv_one (by omega), hI⟩
    · first
      | (exfalso; omega)
      | skip
        refine jv_aload_n rfl rfl rfl (by decide) ?_
        refine jv_geti rfl rfl rfl ⟨by decide, rfl⟩ (by decide) ?_
        refine jv_ireturn rfl (Or.inl rfl) ?_
        exact ⟨jv_one (by omega), hI⟩
    · first
      | (exfalso; omega)
      | skip
        show jV _ _ jm_p_X10_count _ 52 [some (.inr (.inr 94)), some (.inl w), some (.inl 0), none] [] μ
        refine jv_ldc rfl rfl ?_
        refine jv_ireturn rfl (Or.inl rfl) ?_
        exact ⟨jv_one (by omega), hI⟩
  · refine jv_aload_n rfl rfl rfl (by decide) ?_
    refine jv_getr (w := 7) rfl rfl rfl ⟨by decide, rfl⟩ rfl rfl ?_
    refine jv_geti rfl rfl rfl ⟨by decide, rfl⟩ (by decide) ?_
    refine jv_ireturn rfl (Or.inl rfl) ?_
    refine ⟨_, rfl, ?_⟩
    refine jv_enter (d := 199) jm_p_X10_count [some (.inr (.inr 94)), some (.inl w), none, none] rfl rfl rfl (Nat.le_of_ble_eq_true rfl) rfl rfl ?_
    refine jv_iconst rfl rfl ?_
    refine jv_istore_nK (L2 := [some (.inr (.inr 94)), some (.inl w), some (.inl 0), none]) rfl rfl rfl ?_
    refine jv_iload_n rfl rfl rfl ?_
    refine jv_tsw rfl (And.intro (fun s3 => ?_) (fun ns3_7 => (And.intro (fun s3 => ?_) (fun ns3_6 => (And.intro (fun s3 => ?_) (fun ns3_5 => (And.intro (fun s3 => ?_) (fun ns3_4 => (And.intro (fun s3 => ?_) (fun ns3_3 => (And.intro (fun s3 => ?_) (fun ns3_2 => (And.intro (fun s3 => ?_) (fun ns3_1 => (And.intro (fun s3 => ?_) (fun ns3 => (jm_sw_1 ?_)))))))))))))))))
    · first
      | (exfalso; omega)
      | skip
        refine jv_iconst rfl rfl ?_
        refine jv_istore_nK (L2 := [some (.inr (.inr 94)), some (.inl w), some (.inl 0), some (.inl 0)]) rfl rfl rfl ?_
        refine mo_count_l (fun y2 hy2 => ?_) 9 0 0 (by omega) (by omega) (by omega) rfl
        exact ⟨jv_one (jcn_one _ _ _ (fun x a b => by have q := hlan x a b; show ¬ μ 98 x < 0 ↔ ¬ μ 4 x = -1; omega) hy2 hr4), hI⟩
    · first
      | (exfalso; omega)
      | skip
        refine jv_aload_n rfl rfl rfl (by decide) ?_
        refine jv_getr (w := 95) rfl rfl rfl ⟨by decide, rfl⟩ rfl rfl ?_
        refine jv_iconst rfl rfl ?_
        refine jv_iaload rfl rfl (by decide) rfl ⟨by omega, by omega⟩ ?_
        refine jv_ireturn rfl (Or.inl rfl) ?_
        exact ⟨jv_one (by omega), hI⟩
    · first
      | (exfalso; omega)
      | skip
        refine jv_aload_n rfl rfl rfl (by decide) ?_
        refine jv_getr (w := 95) rfl rfl rfl ⟨by decide, rfl⟩ rfl rfl ?_
        refine jv_iconst rfl rfl ?_
        refine jv_iaload rfl rfl (by decide) rfl ⟨by omega, by omega⟩ ?_
        refine jv_ireturn rfl (Or.inl rfl) ?_
        exact ⟨jv_one (by omega), hI⟩
    · first
      | (exfalso; omega)
      | skip
        refine jv_aload_n rfl rfl rfl (by decide) ?_
        refine jv_getr (w := 95) rfl rfl rfl ⟨by decide, rfl⟩ rfl rfl ?_
        refine jv_iconst rfl rfl ?_
        refine jv_iaload rfl rfl (by decide) rfl ⟨by omega, by omega⟩ ?_
        refine jv_ireturn rfl (Or.inl rfl) ?_
        exact ⟨jv_one (by omega), hI⟩
    · first
      | (exfalso; omega)
      | skip
        refine jv_aload_n rfl rfl rfl (by decide) ?_
        refine jv_iconst rfl rfl ?_
        refine jv_callV1 rfl rfl rfl rfl ⟨by decide, rfl⟩ (Nat.le_of_ble_eq_true rfl) (mo_onAll (T := μ 95) (by omega) (fun j _ _ => by rw [Int.zero_add]) hwf ?_)
        show jV _ _ jm_p_X10_count _ 42 [some (.inr (.inr 94)), some (.inl w), some (.inl 0), none] [.inl (jall (μ 95) (μ 95 0).toNat)] μ
        refine jv_ireturn rfl (Or.inl rfl) ?_
        exact ⟨jv_one (by omega), hI⟩
    · first
      | (exfalso; omega)
      | skip
        refine jv_aload_n rfl rfl rfl (by decide) ?_
        refine jv_callV0 rfl rfl rfl rfl ⟨by decide, rfl⟩ (Nat.le_of_ble_eq_true rfl) (mo_comings (t := μ 95) (fun _ _ _ => rfl) w1 hcf ?_)
        show jV _ _ jm_p_X10_count _ 45 [some (.inr (.inr 94)), some (.inl w), some (.inl 0), none] [.inl (jsum (fun c => μ 95 (56 + c)) (μ 95 1).toNat)] μ
        refine jv_ireturn rfl (Or.inl rfl) ?_
        exact ⟨jv_one (by omega), hI⟩
    · first
      | (exfalso; omega)
      | skip
        refine jv_aload_n rfl rfl rfl (by decide) ?_
        refine jv_geti rfl rfl rfl ⟨by decide, rfl⟩ (by decide) ?_
        refine jv_ireturn rfl (Or.inl rfl) ?_
        exact ⟨jv_one (by omega), hI⟩
    · first
      | (exfalso; omega)
      | skip
        refine jv_aload_n rfl rfl rfl (by decide) ?_
        refine jv_geti rfl rfl rfl ⟨by decide, rfl⟩ (by decide) ?_
        refine jv_ireturn rfl (Or.inl rfl) ?_
        exact ⟨jv_one (by omega), hI⟩
    · first
      | (exfalso; omega)
      | skip
        show jV _ _ jm_p_X10_count _ 52 [some (.inr (.inr 94)), some (.inl w), some (.inl 0), none] [] μ
        refine jv_ldc rfl rfl ?_
        refine jv_ireturn rfl (Or.inl rfl) ?_
        exact ⟨jv_one (by omega), hI⟩
  · refine jv_aload_n rfl rfl rfl (by decide) ?_
    refine jv_getr (w := 7) rfl rfl rfl ⟨by decide, rfl⟩ rfl rfl ?_
    refine jv_callV0 rfl rfl rfl rfl ⟨by decide, rfl⟩ (Nat.le_of_ble_eq_true rfl) (cl_hAll hHμ ?_)
    show jV _ _ jm_p_X9_count _ 21 [some (.inr (.inr 0)), some (.inl w)] [.inl (jall (μ 95) (μ 95 0).toNat)] μ
    refine jv_ireturn rfl (Or.inl rfl) ?_
    refine ⟨_, rfl, ?_⟩
    refine jv_enter (d := 199) jm_p_X10_count [some (.inr (.inr 94)), some (.inl w), none, none] rfl rfl rfl (Nat.le_of_ble_eq_true rfl) rfl rfl ?_
    refine jv_iconst rfl rfl ?_
    refine jv_istore_nK (L2 := [some (.inr (.inr 94)), some (.inl w), some (.inl 0), none]) rfl rfl rfl ?_
    refine jv_iload_n rfl rfl rfl ?_
    refine jv_tsw rfl (And.intro (fun s3 => ?_) (fun ns3_7 => (And.intro (fun s3 => ?_) (fun ns3_6 => (And.intro (fun s3 => ?_) (fun ns3_5 => (And.intro (fun s3 => ?_) (fun ns3_4 => (And.intro (fun s3 => ?_) (fun ns3_3 => (And.intro (fun s3 => ?_) (fun ns3_2 => (And.intro (fun s3 => ?_) (fun ns3_1 => (And.intro (fun s3 => ?_) (fun ns3 => (jm_sw_1 ?_)))))))))))))))))
    · first
      | (exfalso; omega)
      | skip
        refine jv_iconst rfl rfl ?_
        refine jv_istore_nK (L2 := [some (.inr (.inr 94)), some (.inl w), some (.inl 0), some (.inl 0)]) rfl rfl rfl ?_
        refine mo_count_l (fun y2 hy2 => ?_) 9 0 0 (by omega) (by omega) (by omega) rfl
        exact ⟨jv_one (jcn_one _ _ _ (fun x a b => by have q := hlan x a b; show ¬ μ 98 x < 0 ↔ ¬ μ 4 x = -1; omega) hy2 hr4), hI⟩
    · first
      | (exfalso; omega)
      | skip
        refine jv_aload_n rfl rfl rfl (by decide) ?_
        refine jv_getr (w := 95) rfl rfl rfl ⟨by decide, rfl⟩ rfl rfl ?_
        refine jv_iconst rfl rfl ?_
        refine jv_iaload rfl rfl (by decide) rfl ⟨by omega, by omega⟩ ?_
        refine jv_ireturn rfl (Or.inl rfl) ?_
        exact ⟨jv_one (by omega), hI⟩
    · first
      | (exfalso; omega)
      | skip
        refine jv_aload_n rfl rfl rfl (by decide) ?_
        refine jv_getr (w := 95) rfl rfl rfl ⟨by decide, rfl⟩ rfl rfl ?_
        refine jv_iconst rfl rfl ?_
        refine jv_iaload rfl rfl (by decide) rfl ⟨by omega, by omega⟩ ?_
        refine jv_ireturn rfl (Or.inl rfl) ?_
        exact ⟨jv_one (by omega), hI⟩
    · first
      | (exfalso; omega)
      | skip
        refine jv_aload_n rfl rfl rfl (by decide) ?_
        refine jv_getr (w := 95) rfl rfl rfl ⟨by decide, rfl⟩ rfl rfl ?_
        refine jv_iconst rfl rfl ?_
        refine jv_iaload rfl rfl (by decide) rfl ⟨by omega, by omega⟩ ?_
        refine jv_ireturn rfl (Or.inl rfl) ?_
        exact ⟨jv_one (by omega), hI⟩
    · first
      | (exfalso; omega)
      | skip
        refine jv_aload_n rfl rfl rfl (by decide) ?_
        refine jv_iconst rfl rfl ?_
        refine jv_callV1 rfl rfl rfl rfl ⟨by decide, rfl⟩ (Nat.le_of_ble_eq_true rfl) (mo_onAll (T := μ 95) (by omega) (fun j _ _ => by rw [Int.zero_add]) hwf ?_)
        show jV _ _ jm_p_X10_count _ 42 [some (.inr (.inr 94)), some (.inl w), some (.inl 0), none] [.inl (jall (μ 95) (μ 95 0).toNat)] μ
        refine jv_ireturn rfl (Or.inl rfl) ?_
        exact ⟨jv_one (by omega), hI⟩
    · first
      | (exfalso; omega)
      | skip
        refine jv_aload_n rfl rfl rfl (by decide) ?_
        refine jv_callV0 rfl rfl rfl rfl ⟨by decide, rfl⟩ (Nat.le_of_ble_eq_true rfl) (mo_comings (t := μ 95) (fun _ _ _ => rfl) w1 hcf ?_)
        show jV _ _ jm_p_X10_count _ 45 [some (.inr (.inr 94)), some (.inl w), some (.inl 0), none] [.inl (jsum (fun c => μ 95 (56 + c)) (μ 95 1).toNat)] μ
        refine jv_ireturn rfl (Or.inl rfl) ?_
        exact ⟨jv_one (by omega), hI⟩
    · first
      | (exfalso; omega)
      | skip
        refine jv_aload_n rfl rfl rfl (by decide) ?_
        refine jv_geti rfl rfl rfl ⟨by decide, rfl⟩ (by decide) ?_
        refine jv_ireturn rfl (Or.inl rfl) ?_
        exact ⟨jv_one (by omega), hI⟩
    · first
      | (exfalso; omega)
      | skip
        refine jv_aload_n rfl rfl rfl (by decide) ?_
        refine jv_geti rfl rfl rfl ⟨by decide, rfl⟩ (by decide) ?_
        refine jv_ireturn rfl (Or.inl rfl) ?_
        exact ⟨jv_one (by omega), hI⟩
    · first
      | (exfalso; omega)
      | skip
        show jV _ _ jm_p_X10_count _ 52 [some (.inr (.inr 94)), some (.inl w), some (.inl 0), none] [] μ
        refine jv_ldc rfl rfl ?_
        refine jv_ireturn rfl (Or.inl rfl) ?_
        exact ⟨jv_one (by omega), hI⟩
  · refine jv_aload_n rfl rfl rfl (by decide) ?_
    refine jv_getr (w := 7) rfl rfl rfl ⟨by decide, rfl⟩ rfl rfl ?_
    refine jv_callV0 rfl rfl rfl rfl ⟨by decide, rfl⟩ (Nat.le_of_ble_eq_true rfl) (cl_comings hHμ hcf ?_)
    show jV _ _ jm_p_X9_count _ 25 [some (.inr (.inr 0)), some (.inl w)] [.inl (jsum (fun c => μ 95 (56 + c)) (μ 95 1).toNat)] μ
    refine jv_ireturn rfl (Or.inl rfl) ?_
    refine ⟨_, rfl, ?_⟩
    refine jv_enter (d := 199) jm_p_X10_count [some (.inr (.inr 94)), some (.inl w), none, none] rfl rfl rfl (Nat.le_of_ble_eq_true rfl) rfl rfl ?_
    refine jv_iconst rfl rfl ?_
    refine jv_istore_nK (L2 := [some (.inr (.inr 94)), some (.inl w), some (.inl 0), none]) rfl rfl rfl ?_
    refine jv_iload_n rfl rfl rfl ?_
    refine jv_tsw rfl (And.intro (fun s3 => ?_) (fun ns3_7 => (And.intro (fun s3 => ?_) (fun ns3_6 => (And.intro (fun s3 => ?_) (fun ns3_5 => (And.intro (fun s3 => ?_) (fun ns3_4 => (And.intro (fun s3 => ?_) (fun ns3_3 => (And.intro (fun s3 => ?_) (fun ns3_2 => (And.intro (fun s3 => ?_) (fun ns3_1 => (And.intro (fun s3 => ?_) (fun ns3 => (jm_sw_1 ?_)))))))))))))))))
    · first
      | (exfalso; omega)
      | skip
        refine jv_iconst rfl rfl ?_
        refine jv_istore_nK (L2 := [some (.inr (.inr 94)), some (.inl w), some (.inl 0), some (.inl 0)]) rfl rfl rfl ?_
        refine mo_count_l (fun y2 hy2 => ?_) 9 0 0 (by omega) (by omega) (by omega) rfl
        exact ⟨jv_one (jcn_one _ _ _ (fun x a b => by have q := hlan x a b; show ¬ μ 98 x < 0 ↔ ¬ μ 4 x = -1; omega) hy2 hr4), hI⟩
    · first
      | (exfalso; omega)
      | skip
        refine jv_aload_n rfl rfl rfl (by decide) ?_
        refine jv_getr (w := 95) rfl rfl rfl ⟨by decide, rfl⟩ rfl rfl ?_
        refine jv_iconst rfl rfl ?_
        refine jv_iaload rfl rfl (by decide) rfl ⟨by omega, by omega⟩ ?_
        refine jv_ireturn rfl (Or.inl rfl) ?_
        exact ⟨jv_one (by omega), hI⟩
    · first
      | (exfalso; omega)
      | skip
        refine jv_aload_n rfl rfl rfl (by decide) ?_
        refine jv_getr (w := 95) rfl rfl rfl ⟨by decide, rfl⟩ rfl rfl ?_
        refine jv_iconst rfl rfl ?_
        refine jv_iaload rfl rfl (by decide) rfl ⟨by omega, by omega⟩ ?_
        refine jv_ireturn rfl (Or.inl rfl) ?_
        exact ⟨jv_one (by omega), hI⟩
    · first
      | (exfalso; omega)
      | skip
        refine jv_aload_n rfl rfl rfl (by decide) ?_
        refine jv_getr (w := 95) rfl rfl rfl ⟨by decide, rfl⟩ rfl rfl ?_
        refine jv_iconst rfl rfl ?_
        refine jv_iaload rfl rfl (by decide) rfl ⟨by omega, by omega⟩ ?_
        refine jv_ireturn rfl (Or.inl rfl) ?_
        exact ⟨jv_one (by omega), hI⟩
    · first
      | (exfalso; omega)
      | skip
        refine jv_aload_n rfl rfl rfl (by decide) ?_
        refine jv_iconst rfl rfl ?_
        refine jv_callV1 rfl rfl rfl rfl ⟨by decide, rfl⟩ (Nat.le_of_ble_eq_true rfl) (mo_onAll (T := μ 95) (by omega) (fun j _ _ => by rw [Int.zero_add]) hwf ?_)
        show jV _ _ jm_p_X10_count _ 42 [some (.inr (.inr 94)), some (.inl w), some (.inl 0), none] [.inl (jall (μ 95) (μ 95 0).toNat)] μ
        refine jv_ireturn rfl (Or.inl rfl) ?_
        exact ⟨jv_one (by omega), hI⟩
    · first
      | (exfalso; omega)
      | skip
        refine jv_aload_n rfl rfl rfl (by decide) ?_
        refine jv_callV0 rfl rfl rfl rfl ⟨by decide, rfl⟩ (Nat.le_of_ble_eq_true rfl) (mo_comings (t := μ 95) (fun _ _ _ => rfl) w1 hcf ?_)
        show jV _ _ jm_p_X10_count _ 45 [some (.inr (.inr 94)), some (.inl w), some (.inl 0), none] [.inl (jsum (fun c => μ 95 (56 + c)) (μ 95 1).toNat)] μ
        refine jv_ireturn rfl (Or.inl rfl) ?_
        exact ⟨jv_one (by omega), hI⟩
    · first
      | (exfalso; omega)
      | skip
        refine jv_aload_n rfl rfl rfl (by decide) ?_
        refine jv_geti rfl rfl rfl ⟨by decide, rfl⟩ (by decide) ?_
        refine jv_ireturn rfl (Or.inl rfl) ?_
        exact ⟨jv_one (by omega), hI⟩
    · first
      | (exfalso; omega)
      | skip
        refine jv_aload_n rfl rfl rfl (by decide) ?_
        refine jv_geti rfl rfl rfl ⟨by decide, rfl⟩ (by decide) ?_
        refine jv_ireturn rfl (Or.inl rfl) ?_
        exact ⟨jv_one (by omega), hI⟩
    · first
      | (exfalso; omega)
      | skip
        show jV _ _ jm_p_X10_count _ 52 [some (.inr (.inr 94)), some (.inl w), some (.inl 0), none] [] μ
        refine jv_ldc rfl rfl ?_
        refine jv_ireturn rfl (Or.inl rfl) ?_
        exact ⟨jv_one (by omega), hI⟩
  · refine jv_aload_n rfl rfl rfl (by decide) ?_
    refine jv_getr (w := 43) rfl rfl rfl ⟨by decide, rfl⟩ rfl rfl ?_
    refine jv_callV0 rfl rfl rfl rfl ⟨by decide, rfl⟩ (Nat.le_of_ble_eq_true rfl) (cl_hsize ?_)
    show jV _ _ jm_p_X9_count _ 29 [some (.inr (.inr 0)), some (.inl w)] [.inl (μ 43 2)] μ
    refine jv_ireturn rfl (Or.inl rfl) ?_
    refine ⟨_, rfl, ?_⟩
    refine jv_enter (d := 199) jm_p_X10_count [some (.inr (.inr 94)), some (.inl w), none, none] rfl rfl rfl (Nat.le_of_ble_eq_true rfl) rfl rfl ?_
    refine jv_iconst rfl rfl ?_
    refine jv_istore_nK (L2 := [some (.inr (.inr 94)), some (.inl w), some (.inl 0), none]) rfl rfl rfl ?_
    refine jv_iload_n rfl rfl rfl ?_
    refine jv_tsw rfl (And.intro (fun s3 => ?_) (fun ns3_7 => (And.intro (fun s3 => ?_) (fun ns3_6 => (And.intro (fun s3 => ?_) (fun ns3_5 => (And.intro (fun s3 => ?_) (fun ns3_4 => (And.intro (fun s3 => ?_) (fun ns3_3 => (And.intro (fun s3 => ?_) (fun ns3_2 => (And.intro (fun s3 => ?_) (fun ns3_1 => (And.intro (fun s3 => ?_) (fun ns3 => (jm_sw_1 ?_)))))))))))))))))
    · first
      | (exfalso; omega)
      | skip
        refine jv_iconst rfl rfl ?_
        refine jv_istore_nK (L2 := [some (.inr (.inr 94)), some (.inl w), some (.inl 0), some (.inl 0)]) rfl rfl rfl ?_
        refine mo_count_l (fun y2 hy2 => ?_) 9 0 0 (by omega) (by omega) (by omega) rfl
        exact ⟨jv_one (jcn_one _ _ _ (fun x a b => by have q := hlan x a b; show ¬ μ 98 x < 0 ↔ ¬ μ 4 x = -1; omega) hy2 hr4), hI⟩
    · first
      | (exfalso; omega)
      | skip
        refine jv_aload_n rfl rfl rfl (by decide) ?_
        refine jv_getr (w := 95) rfl rfl rfl ⟨by decide, rfl⟩ rfl rfl ?_
        refine jv_iconst rfl rfl ?_
        refine jv_iaload rfl rfl (by decide) rfl ⟨by omega, by omega⟩ ?_
        refine jv_ireturn rfl (Or.inl rfl) ?_
        exact ⟨jv_one (by omega), hI⟩
    · first
      | (exfalso; omega)
      | skip
        refine jv_aload_n rfl rfl rfl (by decide) ?_
        refine jv_getr (w := 95) rfl rfl rfl ⟨by decide, rfl⟩ rfl rfl ?_
        refine jv_iconst rfl rfl ?_
        refine jv_iaload rfl rfl (by decide) rfl ⟨by omega, by omega⟩ ?_
        refine jv_ireturn rfl (Or.inl rfl) ?_
        exact ⟨jv_one (by omega), hI⟩
    · first
      | (exfalso; omega)
      | skip
        refine jv_aload_n rfl rfl rfl (by decide) ?_
        refine jv_getr (w := 95) rfl rfl rfl ⟨by decide, rfl⟩ rfl rfl ?_
        refine jv_iconst rfl rfl ?_
        refine jv_iaload rfl rfl (by decide) rfl ⟨by omega, by omega⟩ ?_
        refine jv_ireturn rfl (Or.inl rfl) ?_
        exact ⟨jv_one (by omega), hI⟩
    · first
      | (exfalso; omega)
      | skip
        refine jv_aload_n rfl rfl rfl (by decide) ?_
        refine jv_iconst rfl rfl ?_
        refine jv_callV1 rfl rfl rfl rfl ⟨by decide, rfl⟩ (Nat.le_of_ble_eq_true rfl) (mo_onAll (T := μ 95) (by omega) (fun j _ _ => by rw [Int.zero_add]) hwf ?_)
        show jV _ _ jm_p_X10_count _ 42 [some (.inr (.inr 94)), some (.inl w), some (.inl 0), none] [.inl (jall (μ 95) (μ 95 0).toNat)] μ
        refine jv_ireturn rfl (Or.inl rfl) ?_
        exact ⟨jv_one (by omega), hI⟩
    · first
      | (exfalso; omega)
      | skip
        refine jv_aload_n rfl rfl rfl (by decide) ?_
        refine jv_callV0 rfl rfl rfl rfl ⟨by decide, rfl⟩ (Nat.le_of_ble_eq_true rfl) (mo_comings (t := μ 95) (fun _ _ _ => rfl) w1 hcf ?_)
        show jV _ _ jm_p_X10_count _ 45 [some (.inr (.inr 94)), some (.inl w), some (.inl 0), none] [.inl (jsum (fun c => μ 95 (56 + c)) (μ 95 1).toNat)] μ
        refine jv_ireturn rfl (Or.inl rfl) ?_
        exact ⟨jv_one (by omega), hI⟩
    · first
      | (exfalso; omega)
      | skip
        refine jv_aload_n rfl rfl rfl (by decide) ?_
        refine jv_geti rfl rfl rfl ⟨by decide, rfl⟩ (by decide) ?_
        refine jv_ireturn rfl (Or.inl rfl) ?_
        exact ⟨jv_one (by omega), hI⟩
    · first
      | (exfalso; omega)
      | skip
        refine jv_aload_n rfl rfl rfl (by decide) ?_
        refine jv_geti rfl rfl rfl ⟨by decide, rfl⟩ (by decide) ?_
        refine jv_ireturn rfl (Or.inl rfl) ?_
        exact ⟨jv_one (by omega), hI⟩
    · first
      | (exfalso; omega)
      | skip
        show jV _ _ jm_p_X10_count _ 52 [some (.inr (.inr 94)), some (.inl w), some (.inl 0), none] [] μ
        refine jv_ldc rfl rfl ?_
        refine jv_ireturn rfl (Or.inl rfl) ?_
        exact ⟨jv_one (by omega), hI⟩
  · refine jv_aload_n rfl rfl rfl (by decide) ?_
    refine jv_getr (w := 5) rfl rfl rfl ⟨by decide, rfl⟩ rfl rfl ?_
    refine jv_callV0 rfl rfl rfl rfl ⟨by decide, rfl⟩ (Nat.le_of_ble_eq_true rfl) (cl_rsize ?_)
    show jV _ _ jm_p_X9_count _ 33 [some (.inr (.inr 0)), some (.inl w)] [.inl (μ 5 1)] μ
    refine jv_ireturn rfl (Or.inl rfl) ?_
    refine ⟨_, rfl, ?_⟩
    refine jv_enter (d := 199) jm_p_X10_count [some (.inr (.inr 94)), some (.inl w), none, none] rfl rfl rfl (Nat.le_of_ble_eq_true rfl) rfl rfl ?_
    refine jv_iconst rfl rfl ?_
    refine jv_istore_nK (L2 := [some (.inr (.inr 94)), some (.inl w), some (.inl 0), none]) rfl rfl rfl ?_
    refine jv_iload_n rfl rfl rfl ?_
    refine jv_tsw rfl (And.intro (fun s3 => ?_) (fun ns3_7 => (And.intro (fun s3 => ?_) (fun ns3_6 => (And.intro (fun s3 => ?_) (fun ns3_5 => (And.intro (fun s3 => ?_) (fun ns3_4 => (And.intro (fun s3 => ?_) (fun ns3_3 => (And.intro (fun s3 => ?_) (fun ns3_2 => (And.intro (fun s3 => ?_) (fun ns3_1 => (And.intro (fun s3 => ?_) (fun ns3 => (jm_sw_1 ?_)))))))))))))))))
    · first
      | (exfalso; omega)
      | skip
        refine jv_iconst rfl rfl ?_
        refine jv_istore_nK (L2 := [some (.inr (.inr 94)), some (.inl w), some (.inl 0), some (.inl 0)]) rfl rfl rfl ?_
        refine mo_count_l (fun y2 hy2 => ?_) 9 0 0 (by omega) (by omega) (by omega) rfl
        exact ⟨jv_one (jcn_one _ _ _ (fun x a b => by have q := hlan x a b; show ¬ μ 98 x < 0 ↔ ¬ μ 4 x = -1; omega) hy2 hr4), hI⟩
    · first
      | (exfalso; omega)
      | skip
        refine jv_aload_n rfl rfl rfl (by decide) ?_
        refine jv_getr (w := 95) rfl rfl rfl ⟨by decide, rfl⟩ rfl rfl ?_
        refine jv_iconst rfl rfl ?_
        refine jv_iaload rfl rfl (by decide) rfl ⟨by omega, by omega⟩ ?_
        refine jv_ireturn rfl (Or.inl rfl) ?_
        exact ⟨jv_one (by omega), hI⟩
    · first
      | (exfalso; omega)
      | skip
        refine jv_aload_n rfl rfl rfl (by decide) ?_
        refine jv_getr (w := 95) rfl rfl rfl ⟨by decide, rfl⟩ rfl rfl ?_
        refine jv_iconst rfl rfl ?_
        refine jv_iaload rfl rfl (by decide) rfl ⟨by omega, by omega⟩ ?_
        refine jv_ireturn rfl (Or.inl rfl) ?_
        exact ⟨jv_one (by omega), hI⟩
    · first
      | (exfalso; omega)
      | skip
        refine jv_aload_n rfl rfl rfl (by decide) ?_
        refine jv_getr (w := 95) rfl rfl rfl ⟨by decide, rfl⟩ rfl rfl ?_
        refine jv_iconst rfl rfl ?_
        refine jv_iaload rfl rfl (by decide) rfl ⟨by omega, by omega⟩ ?_
        refine jv_ireturn rfl (Or.inl rfl) ?_
        exact ⟨jv_one (by omega), hI⟩
    · first
      | (exfalso; omega)
      | skip
        refine jv_aload_n rfl rfl rfl (by decide) ?_
        refine jv_iconst rfl rfl ?_
        refine jv_callV1 rfl rfl rfl rfl ⟨by decide, rfl⟩ (Nat.le_of_ble_eq_true rfl) (mo_onAll (T := μ 95) (by omega) (fun j _ _ => by rw [Int.zero_add]) hwf ?_)
        show jV _ _ jm_p_X10_count _ 42 [some (.inr (.inr 94)), some (.inl w), some (.inl 0), none] [.inl (jall (μ 95) (μ 95 0).toNat)] μ
        refine jv_ireturn rfl (Or.inl rfl) ?_
        exact ⟨jv_one (by omega), hI⟩
    · first
      | (exfalso; omega)
      | skip
        refine jv_aload_n rfl rfl rfl (by decide) ?_
        refine jv_callV0 rfl rfl rfl rfl ⟨by decide, rfl⟩ (Nat.le_of_ble_eq_true rfl) (mo_comings (t := μ 95) (fun _ _ _ => rfl) w1 hcf ?_)
        show jV _ _ jm_p_X10_count _ 45 [some (.inr (.inr 94)), some (.inl w), some (.inl 0), none] [.inl (jsum (fun c => μ 95 (56 + c)) (μ 95 1).toNat)] μ
        refine jv_ireturn rfl (Or.inl rfl) ?_
        exact ⟨jv_one (by omega), hI⟩
    · first
      | (exfalso; omega)
      | skip
        refine jv_aload_n rfl rfl rfl (by decide) ?_
        refine jv_geti rfl rfl rfl ⟨by decide, rfl⟩ (by decide) ?_
        refine jv_ireturn rfl (Or.inl rfl) ?_
        exact ⟨jv_one (by omega), hI⟩
    · first
      | (exfalso; omega)
      | skip
        refine jv_aload_n rfl rfl rfl (by decide) ?_
        refine jv_geti rfl rfl rfl ⟨by decide, rfl⟩ (by decide) ?_
        refine jv_ireturn rfl (Or.inl rfl) ?_
        exact ⟨jv_one (by omega), hI⟩
    · first
      | (exfalso; omega)
      | skip
        show jV _ _ jm_p_X10_count _ 52 [some (.inr (.inr 94)), some (.inl w), some (.inl 0), none] [] μ
        refine jv_ldc rfl rfl ?_
        refine jv_ireturn rfl (Or.inl rfl) ?_
        exact ⟨jv_one (by omega), hI⟩
  · show jV _ _ jm_p_X9_count _ 34 [some (.inr (.inr 0)), some (.inl w)] [] μ
    refine jv_ldc rfl rfl ?_
    refine jv_ireturn rfl (Or.inl rfl) ?_
    refine ⟨_, rfl, ?_⟩
    refine jv_enter (d := 199) jm_p_X10_count [some (.inr (.inr 94)), some (.inl w), none, none] rfl rfl rfl (Nat.le_of_ble_eq_true rfl) rfl rfl ?_
    refine jv_iconst rfl rfl ?_
    refine jv_istore_nK (L2 := [some (.inr (.inr 94)), some (.inl w), some (.inl 0), none]) rfl rfl rfl ?_
    refine jv_iload_n rfl rfl rfl ?_
    refine jv_tsw rfl (And.intro (fun s3 => ?_) (fun ns3_7 => (And.intro (fun s3 => ?_) (fun ns3_6 => (And.intro (fun s3 => ?_) (fun ns3_5 => (And.intro (fun s3 => ?_) (fun ns3_4 => (And.intro (fun s3 => ?_) (fun ns3_3 => (And.intro (fun s3 => ?_) (fun ns3_2 => (And.intro (fun s3 => ?_) (fun ns3_1 => (And.intro (fun s3 => ?_) (fun ns3 => (jm_sw_1 ?_)))))))))))))))))
    · first
      | (exfalso; omega)
      | skip
        refine jv_iconst rfl rfl ?_
        refine jv_istore_nK (L2 := [some (.inr (.inr 94)), some (.inl w), some (.inl 0), some (.inl 0)]) rfl rfl rfl ?_
        refine mo_count_l (fun y2 hy2 => ?_) 9 0 0 (by omega) (by omega) (by omega) rfl
        exact ⟨jv_one (jcn_one _ _ _ (fun x a b => by have q := hlan x a b; show ¬ μ 98 x < 0 ↔ ¬ μ 4 x = -1; omega) hy2 hr4), hI⟩
    · first
      | (exfalso; omega)
      | skip
        refine jv_aload_n rfl rfl rfl (by decide) ?_
        refine jv_getr (w := 95) rfl rfl rfl ⟨by decide, rfl⟩ rfl rfl ?_
        refine jv_iconst rfl rfl ?_
        refine jv_iaload rfl rfl (by decide) rfl ⟨by omega, by omega⟩ ?_
        refine jv_ireturn rfl (Or.inl rfl) ?_
        exact ⟨jv_one (by omega), hI⟩
    · first
      | (exfalso; omega)
      | skip
        refine jv_aload_n rfl rfl rfl (by decide) ?_
        refine jv_getr (w := 95) rfl rfl rfl ⟨by decide, rfl⟩ rfl rfl ?_
        refine jv_iconst rfl rfl ?_
        refine jv_iaload rfl rfl (by decide) rfl ⟨by omega, by omega⟩ ?_
        refine jv_ireturn rfl (Or.inl rfl) ?_
        exact ⟨jv_one (by omega), hI⟩
    · first
      | (exfalso; omega)
      | skip
        refine jv_aload_n rfl rfl rfl (by decide) ?_
        refine jv_getr (w := 95) rfl rfl rfl ⟨by decide, rfl⟩ rfl rfl ?_
        refine jv_iconst rfl rfl ?_
        refine jv_iaload rfl rfl (by decide) rfl ⟨by omega, by omega⟩ ?_
        refine jv_ireturn rfl (Or.inl rfl) ?_
        exact ⟨jv_one (by omega), hI⟩
    · first
      | (exfalso; omega)
      | skip
        refine jv_aload_n rfl rfl rfl (by decide) ?_
        refine jv_iconst rfl rfl ?_
        refine jv_callV1 rfl rfl rfl rfl ⟨by decide, rfl⟩ (Nat.le_of_ble_eq_true rfl) (mo_onAll (T := μ 95) (by omega) (fun j _ _ => by rw [Int.zero_add]) hwf ?_)
        show jV _ _ jm_p_X10_count _ 42 [some (.inr (.inr 94)), some (.inl w), some (.inl 0), none] [.inl (jall (μ 95) (μ 95 0).toNat)] μ
        refine jv_ireturn rfl (Or.inl rfl) ?_
        exact ⟨jv_one (by omega), hI⟩
    · first
      | (exfalso; omega)
      | skip
        refine jv_aload_n rfl rfl rfl (by decide) ?_
        refine jv_callV0 rfl rfl rfl rfl ⟨by decide, rfl⟩ (Nat.le_of_ble_eq_true rfl) (mo_comings (t := μ 95) (fun _ _ _ => rfl) w1 hcf ?_)
        show jV _ _ jm_p_X10_count _ 45 [some (.inr (.inr 94)), some (.inl w), some (.inl 0), none] [.inl (jsum (fun c => μ 95 (56 + c)) (μ 95 1).toNat)] μ
        refine jv_ireturn rfl (Or.inl rfl) ?_
        exact ⟨jv_one (by omega), hI⟩
    · first
      | (exfalso; omega)
      | skip
        refine jv_aload_n rfl rfl rfl (by decide) ?_
        refine jv_geti rfl rfl rfl ⟨by decide, rfl⟩ (by decide) ?_
        refine jv_ireturn rfl (Or.inl rfl) ?_
        exact ⟨jv_one (by omega), hI⟩
    · first
      | (exfalso; omega)
      | skip
        refine jv_aload_n rfl rfl rfl (by decide) ?_
        refine jv_geti rfl rfl rfl ⟨by decide, rfl⟩ (by decide) ?_
        refine jv_ireturn rfl (Or.inl rfl) ?_
        exact ⟨jv_one (by omega), hI⟩
    · first
      | (exfalso; omega)
      | skip
        show jV _ _ jm_p_X10_count _ 52 [some (.inr (.inr 94)), some (.inl w), some (.inl 0), none] [] μ
        refine jv_ldc rfl rfl ?_
        refine jv_ireturn rfl (Or.inl rfl) ?_
        exact ⟨jv_one (by omega), hI⟩
