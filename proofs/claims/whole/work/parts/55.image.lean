theorem jg_img1 {μ μ' : jm_M} {k : Int} (e1 : μ' 94 1 = 1) (hk : k = 0 ∨ k = 1) (hi : ji_idle μ) (e42 : μ' 42 k = μ 42 k) (e96 : μ' 96 k = μ 96 k) (e : ∀ z, 60 + 17 * k ≤ z → z ≤ 60 + 17 * k + 16 → μ' z = μ z) (et : ∀ j, 0 ≤ j → j < 62 → μ' 95 (1550 + 62 * k + j) = μ 95 (1550 + 62 * k + j)) (h : ji_img μ k) : ji_img μ' k := by
  obtain ⟨a, b, c⟩ := h
  refine ⟨by rw [e42, e96]; exact a, by rw [e96]; exact b, fun q => ?_⟩
  rw [e96] at q
  obtain ⟨c1, c2, c3, c4, c5, c6⟩ := c q
  have hs : ∀ j, 0 ≤ j → j < 62 → (fun j => μ 95 (1550 + 62 * k + j)) j = (fun j => μ' 95 (1550 + 62 * k + j)) j := fun j j0 j1 => (et j j0 j1).symm
  refine ⟨jt_wf_congr hs c1, jt_cf_congr hs c2, jt_kd_congr hs c1.2.1.2 c3, jg_rel (jg_im60 hi k hk) e (fun j j0 j1 => et j j0 j1) c1.1 c1.2.1 c4, ?_, e1⟩
  have := et 0 (by omega) (by omega)
  rw [Int.add_zero] at this
  rw [this]
  exact c5
/-- another town has come -/
theorem jI_new {μ μ' : jm_M} (h : jI μ) (e : ∀ z, (z = 2 ∨ z = 3 ∨ z = 4 ∨ z = 25 ∨ z = 26 ∨ z = 41 ∨ z = 42 ∨ (58 ≤ z ∧ z < 94) ∨ (96 ≤ z ∧ z < 100) ∨ z = 101) → μ' z = μ z) (es : μ' 0 11 = μ' 94 10) (ef : μ' 0 10 = μ' 94 9) (htape : ji_tape μ') (e12 : μ' 94 12 = μ 94 12) (e1 : μ' 94 1 = 1) (hw : jt_wf (μ' 95)) (hcf : jt_cf (μ' 95) 999) (hkd : jt_kd (μ' 95)) (hm : jh_mats μ' 7) (hr : jh_rel μ' 7 (μ' 95)) (h0 : 1 ≤ μ' 95 0) (ei : ∀ j, 1550 ≤ j → j < 1674 → μ' 95 j = μ 95 j) (p1 : μ' 94 2 = 0) (p2 : μ' 43 2 = 0) (p3 : 0 ≤ μ' 43 1 ∧ μ' 43 1 < 24) : jI μ' := by
  obtain ⟨a, b, c, d, f, g, ⟨i0, i1⟩, j⟩ := h
  refine ⟨jg_rows (e _ (by decide)) (e _ (by decide)) (e _ (by decide)) (e _ (by decide)) (e _ (by decide)) (e _ (by decide)) a, htape, jg_trace (e _ (by decide)) (e _ (by decide)) (e _ (by decide)) e12 c, ⟨es, ef⟩, ⟨hw, hcf, hkd, hm, hr, Or.inr e1, ⟨fun _ => h0, fun _ => e1⟩, fun q => by exfalso; omega⟩,
    jg_idle (e _ (by decide)) (e _ (by decide)) (e _ (by decide)) (e _ (by decide)) (e _ (by decide)) (e _ (by decide)) (e _ (by decide)) g,
    ⟨jg_img1 e1 (Or.inl rfl) g (by rw [e 42 (by decide)]) (by rw [e 96 (by decide)]) (fun z z0 z1 => e z (by omega)) (fun k k0 k1 => ei _ (by omega) (by omega)) i0, jg_img1 e1 (Or.inr rfl) g (by rw [e 42 (by decide)]) (by rw [e 96 (by decide)]) (fun z z0 z1 => e z (by omega)) (fun k k0 k1 => ei _ (by omega) (by omega)) i1⟩,
    ⟨by omega, by omega, p3, fun k k0 k1 => by exfalso; omega⟩⟩
/-- an image has been made -/
theorem jI_image {μ μ' : jm_M} {k : Int} (h : jI μ) (hk : k = 0 ∨ k = 1) (e : ∀ z, (z < 42 ∨ (42 < z ∧ z < 60 + 17 * k) ∨ z = 60 + 17 * k + 1 ∨ z = 60 + 17 * k + 2 ∨ 60 + 17 * k + 16 < z) → z ≠ 95 → z ≠ 96 → μ' z = μ z) (e42 : μ' 42 = jm_u1 (μ 42) k 1) (e96 : μ' 96 = jm_u1 (μ 96) k 1) (e95 : ∀ j, (j < 1550 + 62 * k ∨ 1550 + 62 * k + 62 ≤ j) → μ' 95 j = μ 95 j) (en : ∀ j, 0 ≤ j → j < 62 → μ' 95 (1550 + 62 * k + j) = μ 95 j) (hr : jh_rel μ' (60 + 17 * k) (μ 95)) (h0 : 1 ≤ μ 95 0) (h1 : μ 94 1 = 1) : jI μ' := by
  obtain ⟨a, b, c, d, f, g, ⟨i0, i1⟩, j⟩ := h
  have f1 := f.1
  have e94 : μ' 94 = μ 94 := e 94 (by omega) (by decide) (by decide)
  have hs : ∀ j, 0 ≤ j → j < 62 → μ 95 j = (fun j => μ' 95 (1550 + 62 * k + j)) j := fun j j0 j1 => (en j j0 j1).symm
  have new : ji_img μ' k := by
    refine ⟨by rw [e42, e96]; unfold jm_u1; rw [if_pos rfl, if_pos rfl], by rw [e96]; unfold jm_u1; rw [if_pos rfl]; exact Or.inr rfl, fun _ => ⟨jt_wf_congr hs f.1, jt_cf_congr hs f.2.1, jt_kd_congr hs f1.2.1.2 f.2.2.1, ?_, ?_, by rw [e94]; exact h1⟩⟩
    · exact jg_rel (μ := μ') (jg_mats (e _ (by omega) (by omega) (by omega)) (e _ (by omega) (by omega) (by omega)) (jg_im60 g k hk)) (fun _ _ _ => rfl) (fun j j0 j1 => en j j0 j1) f1.1 f1.2.1 hr
    · have s0 := en 0 (by omega) (by omega)
      rw [Int.add_zero] at s0
      rw [s0]
      exact h0
  have old : ∀ k', (k' = 0 ∨ k' = 1) → k' ≠ k → ji_img μ k' → ji_img μ' k' := fun k' hk' hne hh => by
    refine jg_img (by rw [e94]) hk' g ?_ ?_ (fun z z0 z1 => e z (by omega) (by omega) (by omega)) (fun j j0 j1 => e95 _ (by omega)) hh
    · rw [e42]; unfold jm_u1; rw [if_neg hne]
    · rw [e96]; unfold jm_u1; rw [if_neg hne]
  refine ⟨jg_rows (e _ (by omega) (by decide) (by decide)) (e _ (by omega) (by decide) (by decide)) (e _ (by omega) (by decide) (by decide)) (e _ (by omega) (by decide) (by decide)) (e _ (by omega) (by decide) (by decide)) (e _ (by omega) (by decide) (by decide)) a, jg_tape (by rw [e 5 (by omega) (by decide) (by decide)]) (e _ (by omega) (by decide) (by decide)) (e _ (by omega) (by decide) (by decide)) (by rw [e94]) b, jg_trace (e _ (by omega) (by decide) (by decide)) (e _ (by omega) (by decide) (by decide)) (e _ (by omega) (by decide) (by decide)) (by rw [e94]) c, ⟨by rw [e 0 (by omega) (by decide) (by decide), e94]; exact d.1, by rw [e 0 (by omega) (by decide) (by decide), e94]; exact d.2⟩, jg_town2 (fun z z0 z1 => e z (by omega) (by omega) (by omega)) (fun j j0 j1 => e95 j (by omega)) (by rw [e94]) f,
    jg_idle (e _ (by omega) (by decide) (by decide)) (e _ (by omega) (by decide) (by decide)) (e _ (by omega) (by decide) (by decide)) (e _ (by omega) (by decide) (by decide)) (e _ (by omega) (by decide) (by decide)) (e _ (by omega) (by decide) (by decide)) (e _ (by omega) (by decide) (by decide)) g, ?_, jg_past2 f1.2.1.2 (by rw [e94]) (e _ (by omega) (by decide) (by decide)) (e _ (by omega) (by decide) (by decide)) (fun j j0 j1 => e95 j (by omega)) j⟩
  rcases hk with rfl | rfl
  · exact ⟨new, old 1 (Or.inr rfl) (by decide) i1⟩
  · exact ⟨old 0 (Or.inl rfl) (by decide) i0, new⟩
set_option maxRecDepth 10000 in
theorem cl_forget {X : jm_X} {d : Nat} {Q : jv_P} {μ : jm_M}  (k : ∀ μ2, μ2 = jm_uc μ 43 (jm_u1 (μ 43) 2 0) → Q [] μ2) : cV X (d + 1) 34 [.inr (.inr 43)] μ Q := by
  refine jv_enter (d := d + 0) jm_p_X3_forget [some (.inr (.inr 43))] rfl rfl rfl (Nat.le_of_ble_eq_true rfl) rfl rfl ?_
  refine jv_aload_n rfl rfl rfl (by decide) ?_
  refine jv_iconst rfl rfl ?_
  refine jv_puti rfl rfl rfl ⟨by decide, rfl⟩ (Or.inl rfl) (fun μ2 eμ2 => ?_)
  refine jv_return rfl ?_
  exact k _ eμ2
set_option maxRecDepth 10000 in
set_option maxHeartbeats 1000000 in
theorem pr_image0 {X : jm_X}   : jp X 116 204 [.inl 0] := by
  intro μ hI
  obtain ⟨⟨hit, hlan⟩, ⟨ht0, ht1, ht2⟩, ⟨hr0, hr1, hr2⟩, ⟨hst, hfa⟩, htown, hidle, himg, hpast⟩ := id hI
  obtain ⟨hwf, hcf, hkd, hmat, hrel, hh01, hhot, hnc⟩ := id htown
  obtain ⟨⟨r0, r1, r2, r3⟩, rm, rz, rc⟩ := id hrel
  obtain ⟨w0, w1, w2, w3, w4, w6, w7, w8⟩ := id hwf
  refine jv_enter (d := 199) jm_p_X9_image [some (.inr (.inr 0)), some (.inl 0)] rfl rfl rfl (Nat.le_of_ble_eq_true rfl) rfl rfl ?_
  refine jv_iload_n rfl rfl rfl ?_
  refine jv_callS1 rfl rfl rfl (Nat.le_of_ble_eq_true rfl) (cl_noImage (fun b1 => ?_) (fun b1 => ?_))
  · first
    | (exfalso; omega)
    | skip
      show jV _ _ jm_p_X9_image _ 2 [some (.inr (.inr 0)), some (.inl 0)] [.inl 1] μ
      refine jv_if_eqF rfl rfl (by decide) ?_
      refine jv_ldc rfl rfl ?_
      refine jv_ireturn rfl (Or.inl rfl) ?_
      refine ⟨_, rfl, ?_⟩
      skip
      refine jv_enter (d := 199) jm_p_X10_image [some (.inr (.inr 94)), some (.inl 0)] rfl rfl rfl (Nat.le_of_ble_eq_true rfl) rfl rfl ?_
      refine jv_iload_n rfl rfl rfl ?_
      refine jv_i2l rfl rfl ?_
      refine jv_lconst rfl rfl ?_
      refine jv_lconst rfl rfl ?_
      refine jv_callS3 rfl rfl rfl (Nat.le_of_ble_eq_true rfl) (mo_in (fun b4 => ?_) (fun b4 => ?_))
      · first
        | (exfalso; omega)
        | skip
          show jV _ _ jm_p_X10_image _ 5 [some (.inr (.inr 94)), some (.inl 0)] [.inl 1] μ
          refine jv_if_neT rfl rfl (by decide) ?_
          refine jv_aload_n rfl rfl rfl (by decide) ?_
          refine jv_geti rfl rfl rfl ⟨by decide, rfl⟩ (by decide) ?_
          refine jv_if_ne rfl rfl rfl (fun c10 => ?_) (fun c10 => ?_)
          · first
            | (exfalso; omega)
            | skip
              refine jv_aload_n rfl rfl rfl (by decide) ?_
              refine jv_iconst rfl rfl ?_
              refine jv_sipush rfl rfl ?_
              refine jv_bipush rfl rfl ?_
              refine jv_iload_n rfl rfl rfl ?_
              refine jv_imul rfl rfl ⟨by omega, by omega⟩ ?_
              refine jv_iadd rfl rfl ⟨by omega, by omega⟩ ?_
              refine jv_callV2 rfl rfl rfl rfl ⟨by decide, rfl⟩ (Nat.le_of_ble_eq_true rfl) (mo_copyTown (by omega) (by omega) (by omega) ?_)
              generalize eν20 : jm_uc μ 95 (jt_cp (μ 95) 0 (1550 + (62 * 0)) 62) = ν20
              show jV _ _ jm_p_X10_image _ 21 [some (.inr (.inr 94)), some (.inl 0)] [] ν20
              refine jv_aload_n rfl rfl rfl (by decide) ?_
              refine jv_getr (w := 96) rfl rfl rfl ⟨by decide, rfl⟩ rfl rfl ?_
              refine jv_iload_n rfl rfl rfl ?_
              refine jv_iconst rfl rfl ?_
              refine jv_bastore rfl rfl rfl (by decide) ⟨by omega, by omega⟩ (by decide) (fun ν25 eν25 => ?_)
              refine jv_iconst rfl rfl ?_
              refine jv_ireturn rfl (Or.inl rfl) ?_
              exfalso; omega
          · first
            | (exfalso; omega)
            | skip
              refine jv_ldc rfl rfl ?_
              refine jv_ireturn rfl (Or.inl rfl) ?_
              exact ⟨jv_one (by omega), hI⟩
      · first
        | (exfalso; omega)
        | skip
          show jV _ _ jm_p_X10_image _ 5 [some (.inr (.inr 94)), some (.inl 0)] [.inl 0] μ
          refine jv_if_neF rfl rfl (by decide) ?_
          refine jv_ldc rfl rfl ?_
          refine jv_ireturn rfl (Or.inl rfl) ?_
          exact ⟨jv_one (by omega), hI⟩
  · first
    | (exfalso; omega)
    | skip
      show jV _ _ jm_p_X9_image _ 2 [some (.inr (.inr 0)), some (.inl 0)] [.inl 0] μ
      refine jv_if_eqT rfl rfl (by decide) ?_
      refine jv_aload_n rfl rfl rfl (by decide) ?_
      refine jv_callV0 rfl rfl rfl rfl ⟨by decide, rfl⟩ (Nat.le_of_ble_eq_true rfl) (cl_noHotel (fun b6 => ?_) (fun b6 => ?_))
      · first
        | (exfalso; omega)
        | skip
          show jV _ _ jm_p_X9_image _ 7 [some (.inr (.inr 0)), some (.inl 0)] [.inl 1] μ
          refine jv_if_eqF rfl rfl (by decide) ?_
          refine jv_ldc rfl rfl ?_
          refine jv_ireturn rfl (Or.inl rfl) ?_
          refine ⟨_, rfl, ?_⟩
          skip
          refine jv_enter (d := 199) jm_p_X10_image [some (.inr (.inr 94)), some (.inl 0)] rfl rfl rfl (Nat.le_of_ble_eq_true rfl) rfl rfl ?_
          refine jv_iload_n rfl rfl rfl ?_
          refine jv_i2l rfl rfl ?_
          refine jv_lconst rfl rfl ?_
          refine jv_lconst rfl rfl ?_
          refine jv_callS3 rfl rfl rfl (Nat.le_of_ble_eq_true rfl) (mo_in (fun b4 => ?_) (fun b4 => ?_))
          · first
            | (exfalso; omega)
            | skip
              show jV _ _ jm_p_X10_image _ 5 [some (.inr (.inr 94)), some (.inl 0)] [.inl 1] μ
              refine jv_if_neT rfl rfl (by decide) ?_
              refine jv_aload_n rfl rfl rfl (by decide) ?_
              refine jv_geti rfl rfl rfl ⟨by decide, rfl⟩ (by decide) ?_
              refine jv_if_ne rfl rfl rfl (fun c10 => ?_) (fun c10 => ?_)
              · first
                | (exfalso; omega)
                | skip
                  refine jv_aload_n rfl rfl rfl (by decide) ?_
                  refine jv_iconst rfl rfl ?_
                  refine jv_sipush rfl rfl ?_
                  refine jv_bipush rfl rfl ?_
                  refine jv_iload_n rfl rfl rfl ?_
                  refine jv_imul rfl rfl ⟨by omega, by omega⟩ ?_
                  refine jv_iadd rfl rfl ⟨by omega, by omega⟩ ?_
                  refine jv_callV2 rfl rfl rfl rfl ⟨by decide, rfl⟩ (Nat.le_of_ble_eq_true rfl) (mo_copyTown (by omega) (by omega) (by omega) ?_)
                  generalize eν20 : jm_uc μ 95 (jt_cp (μ 95) 0 (1550 + (62 * 0)) 62) = ν20
                  show jV _ _ jm_p_X10_image _ 21 [some (.inr (.inr 94)), some (.inl 0)] [] ν20
                  refine jv_aload_n rfl rfl rfl (by decide) ?_
                  refine jv_getr (w := 96) rfl rfl rfl ⟨by decide, rfl⟩ rfl rfl ?_
                  refine jv_iload_n rfl rfl rfl ?_
                  refine jv_iconst rfl rfl ?_
                  refine jv_bastore rfl rfl rfl (by decide) ⟨by omega, by omega⟩ (by decide) (fun ν25 eν25 => ?_)
                  refine jv_iconst rfl rfl ?_
                  refine jv_ireturn rfl (Or.inl rfl) ?_
                  exfalso; omega
              · first
                | (exfalso; omega)
                | skip
                  refine jv_ldc rfl rfl ?_
                  refine jv_ireturn rfl (Or.inl rfl) ?_
                  exact ⟨jv_one (by omega), hI⟩
          · first
            | (exfalso; omega)
            | skip
              show jV _ _ jm_p_X10_image _ 5 [some (.inr (.inr 94)), some (.inl 0)] [.inl 0] μ
              refine jv_if_neF rfl rfl (by decide) ?_
              refine jv_ldc rfl rfl ?_
              refine jv_ireturn rfl (Or.inl rfl) ?_
              exact ⟨jv_one (by omega), hI⟩
      · first
        | (exfalso; omega)
        | skip
          show jV _ _ jm_p_X9_image _ 7 [some (.inr (.inr 0)), some (.inl 0)] [.inl 0] μ
          refine jv_if_eqT rfl rfl (by decide) ?_
          refine jv_aload_n rfl rfl rfl (by decide) ?_
          refine jv_getr (w := 41) rfl rfl rfl ⟨by decide, rfl⟩ rfl rfl ?_
          refine jv_iload_n rfl rfl rfl ?_
          refine jv_aaloadv (v := 60) rfl rfl rfl ⟨by decide, by decide, by decide⟩ ⟨by decide, by decide⟩ hidle.2.2.1 ?_
          refine jv_aload_n rfl rfl rfl (by decide) ?_
          refine jv_getr (w := 7) rfl rfl rfl ⟨by decide, rfl⟩ rfl rfl ?_
          refine jv_callV1 rfl rfl rfl rfl ⟨by decide, rfl⟩ (Nat.le_of_ble_eq_true rfl) (cl_take60_7 (jg_im60 hidle 0 (by decide)) hmat (fun μ16 hμ16 => ?_))
          show jV _ _ jm_p_X9_image _ 17 [some (.inr (.inr 0)), some (.inl 0)] [] μ16
          refine jv_aload_n rfl rfl rfl (by decide) ?_
          refine jv_getr (w := 42) rfl rfl rfl ⟨by decide, rfl⟩ rfl rfl ?_
          refine jv_iload_n rfl rfl rfl ?_
          refine jv_iconst rfl rfl ?_
          refine jv_bastore rfl rfl rfl (by decide) ⟨by omega, by omega⟩ (by decide) (fun μ21 eμ21 => ?_)
          refine jv_iconst rfl rfl ?_
          refine jv_ireturn rfl (Or.inl rfl) ?_
          refine ⟨_, rfl, ?_⟩
          have c1 : ∀ z, (z < 60 ∨ z = 60 + 1 ∨ z = 60 + 2 ∨ 60 + 16 < z) → μ16 z = μ z := hμ16.1
          have c2 : ∀ z, (z < 60 ∨ z = 60 + 1 ∨ z = 60 + 2 ∨ 60 + 16 < z) → z ≠ 42 → μ21 z = μ z := fun z p q => by rw [eμ21, jm_off1 q, c1 z p]
          have g95 : μ21 95 = μ 95 := c2 95 (by omega) (by decide)
          have g94 : μ21 94 1 = μ 94 1 := by rw [c2 94 (by omega) (by decide)]
          refine jv_enter (d := 199) jm_p_X10_image [some (.inr (.inr 94)), some (.inl 0)] rfl rfl rfl (Nat.le_of_ble_eq_true rfl) rfl rfl ?_
          refine jv_iload_n rfl rfl rfl ?_
          refine jv_i2l rfl rfl ?_
          refine jv_lconst rfl rfl ?_
          refine jv_lconst rfl rfl ?_
          refine jv_callS3 rfl rfl rfl (Nat.le_of_ble_eq_true rfl) (mo_in (fun b4 => ?_) (fun b4 => ?_))
          · first
            | (exfalso; omega)
            | skip
              show jV _ _ jm_p_X10_image _ 5 [some (.inr (.inr 94)), some (.inl 0)] [.inl 1] μ21
              refine jv_if_neT rfl rfl (by decide) ?_
              refine jv_aload_n rfl rfl rfl (by decide) ?_
              refine jv_geti rfl rfl rfl ⟨by decide, rfl⟩ (by decide) ?_
              refine jv_if_ne rfl rfl rfl (fun c10 => ?_) (fun c10 => ?_)
              · first
                | (exfalso; omega)
                | skip
                  refine jv_aload_n rfl rfl rfl (by decide) ?_
                  refine jv_iconst rfl rfl ?_
                  refine jv_sipush rfl rfl ?_
                  refine jv_bipush rfl rfl ?_
                  refine jv_iload_n rfl rfl rfl ?_
                  refine jv_imul rfl rfl ⟨by omega, by omega⟩ ?_
                  refine jv_iadd rfl rfl ⟨by omega, by omega⟩ ?_
                  refine jv_callV2 rfl rfl rfl rfl ⟨by decide, rfl⟩ (Nat.le_of_ble_eq_true rfl) (mo_copyTown (by omega) (by omega) (by omega) ?_)
                  generalize eν20 : jm_uc μ21 95 (jt_cp (μ21 95) 0 (1550 + (62 * 0)) 62) = ν20
                  show jV _ _ jm_p_X10_image _ 21 [some (.inr (.inr 94)), some (.inl 0)] [] ν20
                  refine jv_aload_n rfl rfl rfl (by decide) ?_
                  refine jv_getr (w := 96) rfl rfl rfl ⟨by decide, rfl⟩ rfl rfl ?_
                  refine jv_iload_n rfl rfl rfl ?_
                  refine jv_iconst rfl rfl ?_
                  refine jv_bastore rfl rfl rfl (by decide) ⟨by omega, by omega⟩ (by decide) (fun ν25 eν25 => ?_)
                  refine jv_iconst rfl rfl ?_
                  refine jv_ireturn rfl (Or.inl rfl) ?_
                  have f95 : ν25 95 = jt_cp (μ 95) 0 (1550 + 62 * 0) 62 := by rw [eν25, jm_off1 (by decide), ← eν20, jm_uc_self, g95]
                  have fz : ∀ z, z ≠ 95 → z ≠ 96 → ν25 z = μ21 z := fun z p q => by rw [eν25, jm_off1 q, ← eν20, jm_off1 p]
                  refine ⟨jv_one (by omega), jI_image (k := 0) hI (by decide) (fun z p q r => by rw [fz z q r]; exact c2 z (by omega) (by omega)) ?_ ?_ (fun j q => ?_) (fun j j0 j1 => ?_) ?_ (by omega) (by omega)⟩
                  · rw [fz 42 (by decide) (by decide), eμ21, jm_uc_self, c1 42 (by omega)]
                  · rw [eν25, jm_uc_self, ← eν20, jm_off1 (by decide), c2 96 (by omega) (by decide)]
                  · rw [f95]
                    unfold jt_cp
                    rw [if_neg (by omega)]
                  · rw [f95]
                    unfold jt_cp
                    rw [if_pos (by omega), show 0 + (1550 + 62 * 0 + j - (1550 + 62 * 0)) = j by omega]
                  · have q := jhp_rel w0 w1 hμ16 hrel
                    exact jg_rel (h := 60) (μ := μ16) (jg_mats (c1 _ (by omega)) (c1 _ (by omega)) (jg_im60 hidle 0 (by decide))) (fun z p r => by rw [fz z (by omega) (by omega), eμ21, jm_off1 (by omega)]) (fun _ _ _ => rfl) w0 w1 q
              · first
                | (exfalso; omega)
                | skip
                  refine jv_ldc rfl rfl ?_
                  refine jv_ireturn rfl (Or.inl rfl) ?_
                  exfalso; omega
          · first
            | (exfalso; omega)
            | skip
              show jV _ _ jm_p_X10_image _ 5 [some (.inr (.inr 94)), some (.inl 0)] [.inl 0] μ21
              refine jv_if_neF rfl rfl (by decide) ?_
              refine jv_ldc rfl rfl ?_
              refine jv_ireturn rfl (Or.inl rfl) ?_
              exfalso; omega
set_option maxRecDepth 10000 in
set_option maxHeartbeats 1000000 in
theorem pr_restore0 {X : jm_X}   : jp X 117 205 [.inl 0] := by
  intro μ hI
  obtain ⟨⟨hit, hlan⟩, ⟨ht0, ht1, ht2⟩, ⟨hr0, hr1, hr2⟩, ⟨hst, hfa⟩, htown, hidle, himg, hpast⟩ := id hI
  obtain ⟨hwf, hcf, hkd, hmat, hrel, hh01, hhot, hnc⟩ := id htown
  obtain ⟨⟨r0, r1, r2, r3⟩, rm, rz, rc⟩ := id hrel
  obtain ⟨w0, w1, w2, w3, w4, w6, w7, w8⟩ := id hwf
  have hi0 := himg.1.1
  have hj0 := himg.1.2.1
  refine jv_enter (d := 199) jm_p_X9_restore [some (.inr (.inr 0)), some (.inl 0)] rfl rfl rfl (Nat.le_of_ble_eq_true rfl) rfl rfl ?_
  refine jv_iload_n rfl rfl rfl ?_
  refine jv_callS1 rfl rfl rfl (Nat.le_of_ble_eq_true rfl) (cl_noImage (fun b1 => ?_) (fun b1 => ?_))
  · first
    | (exfalso; omega)
    | skip
      show jV _ _ jm_p_X9_restore _ 2 [some (.inr (.inr 0)), some (.inl 0)] [.inl 1] μ
      refine jv_if_eqF rfl rfl (by decide) ?_
      refine jv_ldc rfl rfl ?_
      refine jv_ireturn rfl (Or.inl rfl) ?_
      refine ⟨_, rfl, ?_⟩
      skip
      refine jv_enter (d := 199) jm_p_X10_restore [some (.inr (.inr 94)), some (.inl 0)] rfl rfl rfl (Nat.le_of_ble_eq_true rfl) rfl rfl ?_
      refine jv_iload_n rfl rfl rfl ?_
      refine jv_i2l rfl rfl ?_
      refine jv_lconst rfl rfl ?_
      refine jv_lconst rfl rfl ?_
      refine jv_callS3 rfl rfl rfl (Nat.le_of_ble_eq_true rfl) (mo_in (fun b4 => ?_) (fun b4 => ?_))
      · first
        | (exfalso; omega)
        | skip
          show jV _ _ jm_p_X10_restore _ 5 [some (.inr (.inr 94)), some (.inl 0)] [.inl 1] μ
          refine jv_if_neT rfl rfl (by decide) ?_
          refine jv_aload_n rfl rfl rfl (by decide) ?_
          refine jv_getr (w := 96) rfl rfl rfl ⟨by decide, rfl⟩ rfl rfl ?_
          refine jv_iload_n rfl rfl rfl ?_
          refine jv_baload rfl rfl rfl (by decide) ⟨by omega, by omega⟩ ?_
          refine jv_if_ne rfl rfl rfl (fun c12 => ?_) (fun c12 => ?_)
          · first
            | (exfalso; omega)
            | skip
              refine jv_aload_n rfl rfl rfl (by decide) ?_
              refine jv_sipush rfl rfl ?_
              refine jv_bipush rfl rfl ?_
              refine jv_iload_n rfl rfl rfl ?_
              refine jv_imul rfl rfl ⟨by omega, by omega⟩ ?_
              refine jv_iadd rfl rfl ⟨by omega, by omega⟩ ?_
              refine jv_iconst rfl rfl ?_
              refine jv_callV2 rfl rfl rfl rfl ⟨by decide, rfl⟩ (Nat.le_of_ble_eq_true rfl) (mo_copyTown (by omega) (by omega) (by omega) ?_)
              generalize eν22 : jm_uc μ 95 (jt_cp (μ 95) (1550 + (62 * 0)) 0 62) = ν22
              show jV _ _ jm_p_X10_restore _ 23 [some (.inr (.inr 94)), some (.inl 0)] [] ν22
              refine jv_aload_n rfl rfl rfl (by decide) ?_
              refine jv_iconst rfl rfl ?_
              refine jv_puti rfl rfl rfl ⟨by decide, rfl⟩ (Or.inl rfl) (fun ν25 eν25 => ?_)
              refine jv_iconst rfl rfl ?_
              refine jv_ireturn rfl (Or.inl rfl) ?_
              exfalso; omega
          · first
            | (exfalso; omega)
            | skip
              refine jv_ldc rfl rfl ?_
              refine jv_ireturn rfl (Or.inl rfl) ?_
              exact ⟨jv_one (by omega), hI⟩
      · first
        | (exfalso; omega)
        | skip
          show jV _ _ jm_p_X10_restore _ 5 [some (.inr (.inr 94)), some (.inl 0)] [.inl 0] μ
          refine jv_if_neF rfl rfl (by decide) ?_
          refine jv_ldc rfl rfl ?_
          refine jv_ireturn rfl (Or.inl rfl) ?_
          exact ⟨jv_one (by omega), hI⟩
  · first
    | (exfalso; omega)
    | skip
      show jV _ _ jm_p_X9_restore _ 2 [some (.inr (.inr 0)), some (.inl 0)] [.inl 0] μ
      refine jv_if_eqT rfl rfl (by decide) ?_
      refine jv_aload_n rfl rfl rfl (by decide) ?_
      refine jv_getr (w := 42) rfl rfl rfl ⟨by decide, rfl⟩ rfl rfl ?_
      refine jv_iload_n rfl rfl rfl ?_
      refine jv_baload rfl rfl rfl (by decide) ⟨by omega, by omega⟩ ?_
      refine jv_if_ne rfl rfl rfl (fun c9 => ?_) (fun c9 => ?_)
      · first
        | (exfalso; omega)
        | skip
          refine jv_aload_n rfl rfl rfl (by decide) ?_
          refine jv_getr (w := 7) rfl rfl rfl ⟨by decide, rfl⟩ rfl rfl ?_
          refine jv_aload_n rfl rfl rfl (by decide) ?_
          refine jv_getr (w := 41) rfl rfl rfl ⟨by decide, rfl⟩ rfl rfl ?_
          refine jv_iload_n rfl rfl rfl ?_
          refine jv_aaloadv (v := 60) rfl rfl rfl ⟨by decide, by decide, by decide⟩ ⟨by decide, by decide⟩ hidle.2.2.1 ?_
          refine jv_callV1 rfl rfl rfl rfl ⟨by decide, rfl⟩ (Nat.le_of_ble_eq_true rfl) (cl_take7_60 hmat (jg_im60 hidle 0 (by decide)) (fun μ18 hμ18 => ?_))
          show jV _ _ jm_p_X9_restore _ 19 [some (.inr (.inr 0)), some (.inl 0)] [] μ18
          refine jv_aload_n rfl rfl rfl (by decide) ?_
          refine jv_getr (w := 43) rfl rfl rfl ⟨by decide, rfl⟩ rfl rfl ?_
          refine jv_callV0 rfl rfl rfl rfl ⟨by decide, rfl⟩ (Nat.le_of_ble_eq_true rfl) (cl_forget (fun μ21 eμ21 => ?_))
          show jV _ _ jm_p_X9_restore _ 22 [some (.inr (.inr 0)), some (.inl 0)] [] μ21
          refine jv_iconst rfl rfl ?_
          refine jv_ireturn rfl (Or.inl rfl) ?_
          refine ⟨_, rfl, ?_⟩
          have c1 : ∀ z, (z < 7 ∨ z = 7 + 1 ∨ z = 7 + 2 ∨ 7 + 16 < z) → μ18 z = μ z := hμ18.1
          have c2 : ∀ z, (z < 7 ∨ z = 7 + 1 ∨ z = 7 + 2 ∨ 7 + 16 < z) → z ≠ 43 → μ21 z = μ z := fun z p q => by rw [eμ21, jm_off1 q, c1 z p]
          have g95 : μ21 95 = μ 95 := c2 95 (by omega) (by decide)
          have g96 : μ21 96 0 = μ 96 0 := by rw [c2 96 (by omega) (by decide)]
          refine jv_enter (d := 199) jm_p_X10_restore [some (.inr (.inr 94)), some (.inl 0)] rfl rfl rfl (Nat.le_of_ble_eq_true rfl) rfl rfl ?_
          refine jv_iload_n rfl rfl rfl ?_
          refine jv_i2l rfl rfl ?_
          refine jv_lconst rfl rfl ?_
          refine jv_lconst rfl rfl ?_
          refine jv_callS3 rfl rfl rfl (Nat.le_of_ble_eq_true rfl) (mo_in (fun b4 => ?_) (fun b4 => ?_))
          · first
            | (exfalso; omega)
            | skip
              show jV _ _ jm_p_X10_restore _ 5 [some (.inr (.inr 94)), some (.inl 0)] [.inl 1] μ21
              refine jv_if_neT rfl rfl (by decide) ?_
              refine jv_aload_n rfl rfl rfl (by decide) ?_
              refine jv_getr (w := 96) rfl rfl rfl ⟨by decide, rfl⟩ rfl rfl ?_
              refine jv_iload_n rfl rfl rfl ?_
              refine jv_baload rfl rfl rfl (by decide) ⟨by omega, by omega⟩ ?_
              refine jv_if_ne rfl rfl rfl (fun c12 => ?_) (fun c12 => ?_)
              · first
                | (exfalso; omega)
                | skip
                  refine jv_aload_n rfl rfl rfl (by decide) ?_
                  refine jv_sipush rfl rfl ?_
                  refine jv_bipush rfl rfl ?_
                  refine jv_iload_n rfl rfl rfl ?_
                  refine jv_imul rfl rfl ⟨by omega, by omega⟩ ?_
                  refine jv_iadd rfl rfl ⟨by omega, by omega⟩ ?_
                  refine jv_iconst rfl rfl ?_
                  refine jv_callV2 rfl rfl rfl rfl ⟨by decide, rfl⟩ (Nat.le_of_ble_eq_true rfl) (mo_copyTown (by omega) (by omega) (by omega) ?_)
                  generalize eν22 : jm_uc μ21 95 (jt_cp (μ21 95) (1550 + (62 * 0)) 0 62) = ν22
                  show jV _ _ jm_p_X10_restore _ 23 [some (.inr (.inr 94)), some (.inl 0)] [] ν22
                  refine jv_aload_n rfl rfl rfl (by decide) ?_
                  refine jv_iconst rfl rfl ?_
                  refine jv_puti rfl rfl rfl ⟨by decide, rfl⟩ (Or.inl rfl) (fun ν25 eν25 => ?_)
                  refine jv_iconst rfl rfl ?_
                  refine jv_ireturn rfl (Or.inl rfl) ?_
                  obtain ⟨c3, c4, c5, c6, c7, c8⟩ := himg.1.2.2 (by omega)
                  have f95 : ν25 95 = jt_cp (μ 95) (1550 + 62 * 0) 0 62 := by rw [eν25, jm_off1 (by decide), ← eν22, jm_uc_self, g95]
                  have ft : ∀ j, 0 ≤ j → j < 62 → (fun j => μ 95 (1550 + 62 * 0 + j)) j = ν25 95 j := fun j j0 j1 => by
                    rw [f95]
                    unfold jt_cp
                    rw [if_pos (by omega), show j - 0 = j by omega]
                  have fz : ∀ z, z ≠ 94 → z ≠ 95 → ν25 z = μ21 z := fun z p q => by rw [eν25, jm_off1 p, ← eν22, jm_off1 q]
                  have f94 : ν25 94 = jm_u1 (μ 94) 2 0 := by rw [eν25, jm_uc_self, ← eν22, jm_off1 (by decide), c2 94 (by omega) (by decide)]
                  have f43 : ν25 43 = jm_u1 (μ 43) 2 0 := by rw [fz 43 (by decide) (by decide), eμ21, jm_uc_self, c1 43 (by omega)]
                  have q := jhp_rel c3.1 c3.2.1 hμ18 c6
                  have hma : jh_mats μ18 7 := jg_mats (c1 8 (by omega)) (c1 9 (by omega)) hmat
                  have g7 : ∀ z, 7 ≤ z → z ≤ 7 + 16 → ν25 z = μ18 z := fun z p r => by rw [fz z (by omega) (by omega), eμ21, jm_off1 (by omega)]
                  have t0 := ft 0 (by decide) (by decide)
                  refine ⟨jv_one (by omega), jI_new hI (fun z p => by rw [fz z (by omega) (by omega)]; exact c2 z (by omega) (by omega)) ?_ ?_ ?_ ?_ ?_ (jt_wf_congr ft c3) (jt_cf_congr ft c4) (jt_kd_congr ft c3.2.1.2 c5) (jg_mats (g7 8 (by decide) (by decide)) (g7 9 (by decide) (by decide)) hma) (jg_rel hma g7 (fun j j0 j1 => (ft j j0 j1).symm) c3.1 c3.2.1 q) ?_ (fun j j0 j1 => ?_) ?_ ?_ ?_⟩
                  · rw [f94, fz 0 (by decide) (by decide), c2 0 (by omega) (by decide)]
                    exact hst
                  · rw [f94, fz 0 (by decide) (by decide), c2 0 (by omega) (by decide)]
                    exact hfa
                  · exact jg_tape (μ := μ) (by rw [fz 5 (by decide) (by decide), c2 5 (by omega) (by decide)]) (by rw [fz 6 (by decide) (by decide), c2 6 (by omega) (by decide)]) (by rw [fz 100 (by decide) (by decide), c2 100 (by omega) (by decide)]) (by rw [f94]; rfl) ⟨ht0, ht1, ht2⟩
                  · rw [f94]; rfl
                  · rw [f94]; exact c8
                  · have z0 : (fun j => μ 95 (1550 + 62 * 0 + j)) 0 = μ 95 (1550 + 62 * 0) := by show μ 95 (1550 + 62 * 0 + 0) = _; rw [Int.add_zero]
                    omega
                  · rw [f95]
                    unfold jt_cp
                    rw [if_neg (by omega)]
                  · rw [f94]; rfl
                  · rw [f43]; rfl
                  · rw [f43]
                    exact hpast.2.2.1
              · first
                | (exfalso; omega)
                | skip
                  refine jv_ldc rfl rfl ?_
                  refine jv_ireturn rfl (Or.inl rfl) ?_
                  exfalso; omega
          · first
            | (exfalso; omega)
            | skip
              show jV _ _ jm_p_X10_restore _ 5 [some (.inr (.inr 94)), some (.inl 0)] [.inl 0] μ21
              refine jv_if_neF rfl rfl (by decide) ?_
              refine jv_ldc rfl rfl ?_
              refine jv_ireturn rfl (Or.inl rfl) ?_
              exfalso; omega
      · first
        | (exfalso; omega)
        | skip
          refine jv_ldc rfl rfl ?_
          refine jv_ireturn rfl (Or.inl rfl) ?_
          refine ⟨_, rfl, ?_⟩
          skip
          refine jv_enter (d := 199) jm_p_X10_restore [some (.inr (.inr 94)), some (.inl 0)] rfl rfl rfl (Nat.le_of_ble_eq_true rfl) rfl rfl ?_
          refine jv_iload_n rfl rfl rfl ?_
          refine jv_i2l rfl rfl ?_
          refine jv_lconst rfl rfl ?_
          refine jv_lconst rfl rfl ?_
          refine jv_callS3 rfl rfl rfl (Nat.le_of_ble_eq_true rfl) (mo_in (fun b4 => ?_) (fun b4 => ?_))
          · first
            | (exfalso; omega)
            | skip
              show jV _ _ jm_p_X10_restore _ 5 [some (.inr (.inr 94)), some (.inl 0)] [.inl 1] μ
              refine jv_if_neT rfl rfl (by decide) ?_
              refine jv_aload_n rfl rfl rfl (by decide) ?_
              refine jv_getr (w := 96) rfl rfl rfl ⟨by decide, rfl⟩ rfl rfl ?_
              refine jv_iload_n rfl rfl rfl ?_
              refine jv_baload rfl rfl rfl (by decide) ⟨by omega, by omega⟩ ?_
              refine jv_if_ne rfl rfl rfl (fun c12 => ?_) (fun c12 => ?_)
              · first
                | (exfalso; omega)
                | skip
                  refine jv_aload_n rfl rfl rfl (by decide) ?_
                  refine jv_sipush rfl rfl ?_
                  refine jv_bipush rfl rfl ?_
                  refine jv_iload_n rfl rfl rfl ?_
                  refine jv_imul rfl rfl ⟨by omega, by omega⟩ ?_
                  refine jv_iadd rfl rfl ⟨by omega, by omega⟩ ?_
                  refine jv_iconst rfl rfl ?_
                  refine jv_callV2 rfl rfl rfl rfl ⟨by decide, rfl⟩ (Nat.le_of_ble_eq_true rfl) (mo_copyTown (by omega) (by omega) (by omega) ?_)
                  generalize eν22 : jm_uc μ 95 (jt_cp (μ 95) (1550 + (62 * 0)) 0 62) = ν22
                  show jV _ _ jm_p_X10_restore _ 23 [some (.inr (.inr 94)), some (.inl 0)] [] ν22
                  refine jv_aload_n rfl rfl rfl (by decide) ?_
                  refine jv_iconst rfl rfl ?_
                  refine jv_puti rfl rfl rfl ⟨by decide, rfl⟩ (Or.inl rfl) (fun ν25 eν25 => ?_)
                  refine jv_iconst rfl rfl ?_
                  refine jv_ireturn rfl (Or.inl rfl) ?_
                  exfalso; omega
              · first
                | (exfalso; omega)
                | skip
                  refine jv_ldc rfl rfl ?_
                  refine jv_ireturn rfl (Or.inl rfl) ?_
                  exact ⟨jv_one (by omega), hI⟩
          · first
            | (exfalso; omega)
            | skip
              show jV _ _ jm_p_X10_restore _ 5 [some (.inr (.inr 94)), some (.inl 0)] [.inl 0] μ
              refine jv_if_neF rfl rfl (by decide) ?_
              refine jv_ldc rfl rfl ?_
              refine jv_ireturn rfl (Or.inl rfl) ?_
              exact ⟨jv_one (by omega), hI⟩
set_option maxRecDepth 10000 in
set_option maxHeartbeats 1000000 in
theorem pr_image1 {X : jm_X}   : jp X 116 204 [.inl 1] := by
  intro μ hI
  obtain ⟨⟨hit, hlan⟩, ⟨ht0, ht1, ht2⟩, ⟨hr0, hr1, hr2⟩, ⟨hst, hfa⟩, htown, hidle, himg, hpast⟩ := id hI
  obtain ⟨hwf, hcf, hkd, hmat, hrel, hh01, hhot, hnc⟩ := id htown
  obtain ⟨⟨r0, r1, r2, r3⟩, rm, rz, rc⟩ := id hrel
  obtain ⟨w0, w1, w2, w3, w4, w6, w7, w8⟩ := id hwf
  refine jv_enter (d := 199) jm_p_X9_image [some (.inr (.inr 0)), some (.inl 1)] rfl rfl rfl (Nat.le_of_ble_eq_true rfl) rfl rfl ?_
  refine jv_iload_n rfl rfl rfl ?_
  refine jv_callS1 rfl rfl rfl (Nat.le_of_ble_eq_true rfl) (cl_noImage (fun b1 => ?_) (fun b1 => ?_))
  · first
    | (exfalso; omega)
    | skip
      show jV _ _ jm_p_X9_image _ 2 [some (.inr (.inr 0)), some (.inl 1)] [.inl 1] μ
      refine jv_if_eqF rfl rfl (by decide) ?_
      refine jv_ldc rfl rfl ?_
      refine jv_ireturn rfl (Or.inl rfl) ?_
      refine ⟨_, rfl, ?_⟩
      skip
      refine jv_enter (d := 199) jm_p_X10_image [some (.inr (.inr 94)), some (.inl 1)] rfl rfl rfl (Nat.le_of_ble_eq_true rfl) rfl rfl ?_
      refine jv_iload_n rfl rfl rfl ?_
      refine jv_i2l rfl rfl ?_
      refine jv_lconst rfl rfl ?_
      refine jv_lconst rfl rfl ?_
      refine jv_callS3 rfl rfl rfl (Nat.le_of_ble_eq_true rfl) (mo_in (fun b4 => ?_) (fun b4 => ?_))
      · first
        | (exfalso; omega)
        | skip
          show jV _ _ jm_p_X10_image _ 5 [some (.inr (.inr 94)), some (.inl 1)] [.inl 1] μ
          refine jv_if_neT rfl rfl (by decide) ?_
          refine jv_aload_n rfl rfl rfl (by decide) ?_
          refine jv_geti rfl rfl rfl ⟨by decide, rfl⟩ (by decide) ?_
          refine jv_if_ne rfl rfl rfl (fun c10 => ?_) (fun c10 => ?_)
          · first
            | (exfalso; omega)
            | skip
              refine jv_aload_n rfl rfl rfl (by decide) ?_
              refine jv_iconst rfl rfl ?_
              refine jv_sipush rfl rfl ?_
              refine jv_bipush rfl rfl ?_
              refine jv_iload_n rfl rfl rfl ?_
              refine jv_imul rfl rfl ⟨by omega, by omega⟩ ?_
              refine jv_iadd rfl rfl ⟨by omega, by omega⟩ ?_
              refine jv_callV2 rfl rfl rfl rfl ⟨by decide, rfl⟩ (Nat.le_of_ble_eq_true rfl) (mo_copyTown (by omega) (by omega) (by omega) ?_)
              generalize eν20 : jm_uc μ 95 (jt_cp (μ 95) 0 (1550 + (62 * 1)) 62) = ν20
              show jV _ _ jm_p_X10_image _ 21 [some (.inr (.inr 94)), some (.inl 1)] [] ν20
              refine jv_aload_n rfl rfl rfl (by decide) ?_
              refine jv_getr (w := 96) rfl rfl rfl ⟨by decide, rfl⟩ rfl rfl ?_
              refine jv_iload_n rfl rfl rfl ?_
              refine jv_iconst rfl rfl ?_
              refine jv_bastore rfl rfl rfl (by decide) ⟨by omega, by omega⟩ (by decide) (fun ν25 eν25 => ?_)
              refine jv_iconst rfl rfl ?_
              refine jv_ireturn rfl (Or.inl rfl) ?_
              exfalso; omega
          · first
            | (exfalso; omega)
            | skip
              refine jv_ldc rfl rfl ?_
              refine jv_ireturn rfl (Or.inl rfl) ?_
              exact ⟨jv_one (by omega), hI⟩
      · first
        | (exfalso; omega)
        | skip
          show jV _ _ jm_p_X10_image _ 5 [some (.inr (.inr 94)), some (.inl 1)] [.inl 0] μ
          refine jv_if_neF rfl rfl (by decide) ?_
          refine jv_ldc rfl rfl ?_
          refine jv_ireturn rfl (Or.inl rfl) ?_
          exact ⟨jv_one (by omega), hI⟩
  · first
    | (exfalso; omega)
    | skip
      show jV _ _ jm_p_X9_image _ 2 [some (.inr (.inr 0)), some (.inl 1)] [.inl 0] μ
      refine jv_if_eqT rfl rfl (by decide) ?_
      refine jv_aload_n rfl rfl rfl (by decide) ?_
      refine jv_callV0 rfl rfl rfl rfl ⟨by decide, rfl⟩ (Nat.le_of_ble_eq_true rfl) (cl_noHotel (fun b6 => ?_) (fun b6 => ?_))
      · first
        | (exfalso; omega)
        | skip
          show jV _ _ jm_p_X9_image _ 7 [some (.inr (.inr 0)), some (.inl 1)] [.inl 1] μ
          refine jv_if_eqF rfl rfl (by decide) ?_
          refine jv_ldc rfl rfl ?_
          refine jv_ireturn rfl (Or.inl rfl) ?_
          refine ⟨_, rfl, ?_⟩
          skip
          refine jv_enter (d := 199) jm_p_X10_image [some (.inr (.inr 94)), some (.inl 1)] rfl rfl rfl (Nat.le_of_ble_eq_true rfl) rfl rfl ?_
          refine jv_iload_n rfl rfl rfl ?_
          refine jv_i2l rfl rfl ?_
          refine jv_lconst rfl rfl ?_
          refine jv_lconst rfl rfl ?_
          refine jv_callS3 rfl rfl rfl (Nat.le_of_ble_eq_true rfl) (mo_in (fun b4 => ?_) (fun b4 => ?_))
          · first
            | (exfalso; omega)
            | skip
              show jV _ _ jm_p_X10_image _ 5 [some (.inr (.inr 94)), some (.inl 1)] [.inl 1] μ
              refine jv_if_neT rfl rfl (by decide) ?_
              refine jv_aload_n rfl rfl rfl (by decide) ?_
              refine jv_geti rfl rfl rfl ⟨by decide, rfl⟩ (by decide) ?_
              refine jv_if_ne rfl rfl rfl (fun c10 => ?_) (fun c10 => ?_)
              · first
                | (exfalso; omega)
                | skip
                  refine jv_aload_n rfl rfl rfl (by decide) ?_
                  refine jv_iconst rfl rfl ?_
                  refine jv_sipush rfl rfl ?_
                  refine jv_bipush rfl rfl ?_
                  refine jv_iload_n rfl rfl rfl ?_
                  refine jv_imul rfl rfl ⟨by omega, by omega⟩ ?_
                  refine jv_iadd rfl rfl ⟨by omega, by omega⟩ ?_
                  refine jv_callV2 rfl rfl rfl rfl ⟨by decide, rfl⟩ (Nat.le_of_ble_eq_true rfl) (mo_copyTown (by omega) (by omega) (by omega) ?_)
                  generalize eν20 : jm_uc μ 95 (jt_cp (μ 95) 0 (1550 + (62 * 1)) 62) = ν20
                  show jV _ _ jm_p_X10_image _ 21 [some (.inr (.inr 94)), some (.inl 1)] [] ν20
                  refine jv_aload_n rfl rfl rfl (by decide) ?_
                  refine jv_getr (w := 96) rfl rfl rfl ⟨by decide, rfl⟩ rfl rfl ?_
                  refine jv_iload_n rfl rfl rfl ?_
                  refine jv_iconst rfl rfl ?_
                  refine jv_bastore rfl rfl rfl (by decide) ⟨by omega, by omega⟩ (by decide) (fun ν25 eν25 => ?_)
                  refine jv_iconst rfl rfl ?_
                  refine jv_ireturn rfl (Or.inl rfl) ?_
                  exfalso; omega
              · first
                | (exfalso; omega)
                | skip
                  refine jv_ldc rfl rfl ?_
                  refine jv_ireturn rfl (Or.inl rfl) ?_
                  exact ⟨jv_one (by omega), hI⟩
          · first
            | (exfalso; omega)
            | skip
              show jV _ _ jm_p_X10_image _ 5 [some (.inr (.inr 94)), some (.inl 1)] [.inl 0] μ
              refine jv_if_neF rfl rfl (by decide) ?_
              refine jv_ldc rfl rfl ?_
              refine jv_ireturn rfl (Or.inl rfl) ?_
              exact ⟨jv_one (by omega), hI⟩
      · first
        | (exfalso; omega)
        | skip
          show jV _ _ jm_p_X9_image _ 7 [some (.inr (.inr 0)), some (.inl 1)] [.inl 0] μ
          refine jv_if_eqT rfl rfl (by decide) ?_
          refine jv_aload_n rfl rfl rfl (by decide) ?_
          refine jv_getr (w := 41) rfl rfl rfl ⟨by decide, rfl⟩ rfl rfl ?_
          refine jv_iload_n rfl rfl rfl ?_
          refine jv_aaloadv (v := 77) rfl rfl rfl ⟨by decide, by decide, by decide⟩ ⟨by decide, by decide⟩ hidle.2.2.2 ?_
          refine jv_aload_n rfl rfl rfl (by decide) ?_
          refine jv_getr (w := 7) rfl rfl rfl ⟨by decide, rfl⟩ rfl rfl ?_
          refine jv_callV1 rfl rfl rfl rfl ⟨by decide, rfl⟩ (Nat.le_of_ble_eq_true rfl) (cl_take77_7 (jg_im60 hidle 1 (by decide)) hmat (fun μ16 hμ16 => ?_))
          show jV _ _ jm_p_X9_image _ 17 [some (.inr (.inr 0)), some (.inl 1)] [] μ16
          refine jv_aload_n rfl rfl rfl (by decide) ?_
          refine jv_getr (w := 42) rfl rfl rfl ⟨by decide, rfl⟩ rfl rfl ?_
          refine jv_iload_n rfl rfl rfl ?_
          refine jv_iconst rfl rfl ?_
          refine jv_bastore rfl rfl rfl (by decide) ⟨by omega, by omega⟩ (by decide) (fun μ21 eμ21 => ?_)
          refine jv_iconst rfl rfl ?_
          refine jv_ireturn rfl (Or.inl rfl) ?_
          refine ⟨_, rfl, ?_⟩
          have c1 : ∀ z, (z < 77 ∨ z = 77 + 1 ∨ z = 77 + 2 ∨ 77 + 16 < z) → μ16 z = μ z := hμ16.1
          have c2 : ∀ z, (z < 77 ∨ z = 77 + 1 ∨ z = 77 + 2 ∨ 77 + 16 < z) → z ≠ 42 → μ21 z = μ z := fun z p q => by rw [eμ21, jm_off1 q, c1 z p]
          have g95 : μ21 95 = μ 95 := c2 95 (by omega) (by decide)
          have g94 : μ21 94 1 = μ 94 1 := by rw [c2 94 (by omega) (by decide)]
          refine jv_enter (d := 199) jm_p_X10_image [some (.inr (.inr 94)), some (.inl 1)] rfl rfl rfl (Nat.le_of_ble_eq_true rfl) rfl rfl ?_
          refine jv_iload_n rfl rfl rfl ?_
          refine jv_i2l rfl rfl ?_
          refine jv_lconst rfl rfl ?_
          refine jv_lconst rfl rfl ?_
          refine jv_callS3 rfl rfl rfl (Nat.le_of_ble_eq_true rfl) (mo_in (fun b4 => ?_) (fun b4 => ?_))
          · first
            | (exfalso; omega)
            | skip
              show jV _ _ jm_p_X10_image _ 5 [some (.inr (.inr 94)), some (.inl 1)] [.inl 1] μ21
              refine jv_if_neT rfl rfl (by decide) ?_
              refine jv_aload_n rfl rfl rfl (by decide) ?_
              refine jv_geti rfl rfl rfl ⟨by decide, rfl⟩ (by decide) ?_
              refine jv_if_ne rfl rfl rfl (fun c10 => ?_) (fun c10 => ?_)
              · first
                | (exfalso; omega)
                | skip
                  refine jv_aload_n rfl rfl rfl (by decide) ?_
                  refine jv_iconst rfl rfl ?_
                  refine jv_sipush rfl rfl ?_
                  refine jv_bipush rfl rfl ?_
                  refine jv_iload_n rfl rfl rfl ?_
                  refine jv_imul rfl rfl ⟨by omega, by omega⟩ ?_
                  refine jv_iadd rfl rfl ⟨by omega, by omega⟩ ?_
                  refine jv_callV2 rfl rfl rfl rfl ⟨by decide, rfl⟩ (Nat.le_of_ble_eq_true rfl) (mo_copyTown (by omega) (by omega) (by omega) ?_)
                  generalize eν20 : jm_uc μ21 95 (jt_cp (μ21 95) 0 (1550 + (62 * 1)) 62) = ν20
                  show jV _ _ jm_p_X10_image _ 21 [some (.inr (.inr 94)), some (.inl 1)] [] ν20
                  refine jv_aload_n rfl rfl rfl (by decide) ?_
                  refine jv_getr (w := 96) rfl rfl rfl ⟨by decide, rfl⟩ rfl rfl ?_
                  refine jv_iload_n rfl rfl rfl ?_
                  refine jv_iconst rfl rfl ?_
                  refine jv_bastore rfl rfl rfl (by decide) ⟨by omega, by omega⟩ (by decide) (fun ν25 eν25 => ?_)
                  refine jv_iconst rfl rfl ?_
                  refine jv_ireturn rfl (Or.inl rfl) ?_
                  have f95 : ν25 95 = jt_cp (μ 95) 0 (1550 + 62 * 1) 62 := by rw [eν25, jm_off1 (by decide), ← eν20, jm_uc_self, g95]
                  have fz : ∀ z, z ≠ 95 → z ≠ 96 → ν25 z = μ21 z := fun z p q => by rw [eν25, jm_off1 q, ← eν20, jm_off1 p]
                  refine ⟨jv_one (by omega), jI_image (k := 1) hI (by decide) (fun z p q r => by rw [fz z q r]; exact c2 z (by omega) (by omega)) ?_ ?_ (fun j q => ?_) (fun j j0 j1 => ?_) ?_ (by omega) (by omega)⟩
                  · rw [fz 42 (by decide) (by decide), eμ21, jm_uc_self, c1 42 (by omega)]
                  · rw [eν25, jm_uc_self, ← eν20, jm_off1 (by decide), c2 96 (by omega) (by decide)]
                  · rw [f95]
                    unfold jt_cp
                    rw [if_neg (by omega)]
                  · rw [f95]
                    unfold jt_cp
                    rw [if_pos (by omega), show 0 + (1550 + 62 * 1 + j - (1550 + 62 * 1)) = j by omega]
                  · have q := jhp_rel w0 w1 hμ16 hrel
                    exact jg_rel (h := 77) (μ := μ16) (jg_mats (c1 _ (by omega)) (c1 _ (by omega)) (jg_im60 hidle 1 (by decide))) (fun z p r => by rw [fz z (by omega) (by omega), eμ21, jm_off1 (by omega)]) (fun _ _ _ => rfl) w0 w1 q
              · first
                | (exfalso; omega)
                | skip
                  refine jv_ldc rfl rfl ?_
                  refine jv_ireturn rfl (Or.inl rfl) ?_
                  exfalso; omega
          · first
            | (exfalso; omega)
            | skip
              show jV _ _ jm_p_X10_image _ 5 [some (.inr (.inr 94)), some (.inl 1)] [.inl 0] μ21
              refine jv_if_neF rfl rfl (by decide) ?_
              refine jv_ldc rfl rfl ?_
              refine jv_ireturn rfl (Or.inl rfl) ?_
              exfalso; omega
set_option maxRecDepth 10000 in
set_option maxHeartbeats 1000000 in
theorem pr_restore1 {X : jm_X}   : jp X 117 205 [.inl 1] := by
  intro μ hI
  obtain ⟨⟨hit, hlan⟩, ⟨ht0, ht1, ht2⟩, ⟨hr0, hr1, hr2⟩, ⟨hst, hfa⟩, htown, hidle, himg, hpast⟩ := id hI
  obtain ⟨hwf, hcf, hkd, hmat, hrel, hh01, hhot, hnc⟩ := id htown
  obtain ⟨⟨r0, r1, r2, r3⟩, rm, rz, rc⟩ := id hrel
  obtain ⟨w0, w1, w2, w3, w4, w6, w7, w8⟩ := id hwf
  have hi1 := himg.2.1
  have hj1 := himg.2.2.1
  refine jv_enter (d := 199) jm_p_X9_restore [some (.inr (.inr 0)), some (.inl 1)] rfl rfl rfl (Nat.le_of_ble_eq_true rfl) rfl rfl ?_
  refine jv_iload_n rfl rfl rfl ?_
  refine jv_callS1 rfl rfl rfl (Nat.le_of_ble_eq_true rfl) (cl_noImage (fun b1 => ?_) (fun b1 => ?_))
  · first
    | (exfalso; omega)
    | skip
      show jV _ _ jm_p_X9_restore _ 2 [some (.inr (.inr 0)), some (.inl 1)] [.inl 1] μ
      refine jv_if_eqF rfl rfl (by decide) ?_
      refine jv_ldc rfl rfl ?_
      refine jv_ireturn rfl (Or.inl rfl) ?_
      refine ⟨_, rfl, ?_⟩
      skip
      refine jv_enter (d := 199) jm_p_X10_restore [some (.inr (.inr 94)), some (.inl 1)] rfl rfl rfl (Nat.le_of_ble_eq_true rfl) rfl rfl ?_
      refine jv_iload_n rfl rfl rfl ?_
      refine jv_i2l rfl rfl ?_
      refine jv_lconst rfl rfl ?_
      refine jv_lconst rfl rfl ?_
      refine jv_callS3 rfl rfl rfl (Nat.le_of_ble_eq_true rfl) (mo_in (fun b4 => ?_) (fun b4 => ?_))
      · first
        | (exfalso; omega)
        | skip
          show jV _ _ jm_p_X10_restore _ 5 [some (.inr (.inr 94)), some (.inl 1)] [.inl 1] μ
          refine jv_if_neT rfl rfl (by decide) ?_
          refine jv_aload_n rfl rfl rfl (by decide) ?_
          refine jv_getr (w := 96) rfl rfl rfl ⟨by decide, rfl⟩ rfl rfl ?_
          refine jv_iload_n rfl rfl rfl ?_
          refine jv_baload rfl rfl rfl (by decide) ⟨by omega, by omega⟩ ?_
          refine jv_if_ne rfl rfl rfl (fun c12 => ?_) (fun c12 => ?_)
          · first
            | (exfalso; omega)
            | skip
              refine jv_aload_n rfl rfl rfl (by decide) ?_
              refine jv_sipush rfl rfl ?_
              refine jv_bipush rfl rfl ?_
              refine jv_iload_n rfl rfl rfl ?_
              refine jv_imul rfl rfl ⟨by omega, by omega⟩ ?_
              refine jv_iadd rfl rfl ⟨by omega, by omega⟩ ?_
              refine jv_iconst rfl rfl ?_
              refine jv_callV2 rfl rfl rfl rfl ⟨by decide, rfl⟩ (Nat.le_of_ble_eq_true rfl) (mo_copyTown (by omega) (by omega) (by omega) ?_)
              generalize eν22 : jm_uc μ 95 (jt_cp (μ 95) (1550 + (62 * 1)) 0 62) = ν22
              show jV _ _ jm_p_X10_restore _ 23 [some (.inr (.inr 94)), some (.inl 1)] [] ν22
              refine jv_aload_n rfl rfl rfl (by decide) ?_
              refine jv_iconst rfl rfl ?_
              refine jv_puti rfl rfl rfl ⟨by decide, rfl⟩ (Or.inl rfl) (fun ν25 eν25 => ?_)
              refine jv_iconst rfl rfl ?_
              refine jv_ireturn rfl (Or.inl rfl) ?_
              exfalso; omega
          · first
            | (exfalso; omega)
            | skip
              refine jv_ldc rfl rfl ?_
              refine jv_ireturn rfl (Or.inl rfl) ?_
              exact ⟨jv_one (by omega), hI⟩
      · first
        | (exfalso; omega)
        | skip
          show jV _ _ jm_p_X10_restore _ 5 [some (.inr (.inr 94)), some (.inl 1)] [.inl 0] μ
          refine jv_if_neF rfl rfl (by decide) ?_
          refine jv_ldc rfl rfl ?_
          refine jv_ireturn rfl (Or.inl rfl) ?_
          exact ⟨jv_one (by omega), hI⟩
  · first
    | (exfalso; omega)
    | skip
      show jV _ _ jm_p_X9_restore _ 2 [some (.inr (.inr 0)), some (.inl 1)] [.inl 0] μ
      refine jv_if_eqT rfl rfl (by decide) ?_
      refine jv_aload_n rfl rfl rfl (by decide) ?_
      refine jv_getr (w := 42) rfl rfl rfl ⟨by decide, rfl⟩ rfl rfl ?_
      refine jv_iload_n rfl rfl rfl ?_
      refine jv_baload rfl rfl rfl (by decide) ⟨by omega, by omega⟩ ?_
      refine jv_if_ne rfl rfl rfl (fun c9 => ?_) (fun c9 => ?_)
      · first
        | (exfalso; omega)
        | skip
          refine jv_aload_n rfl rfl rfl (by decide) ?_
          refine jv_getr (w := 7) rfl rfl rfl ⟨by decide, rfl⟩ rfl rfl ?_
          refine jv_aload_n rfl rfl rfl (by decide) ?_
          refine jv_getr (w := 41) rfl rfl rfl ⟨by decide, rfl⟩ rfl rfl ?_
          refine jv_iload_n rfl rfl rfl ?_
          refine jv_aaloadv (v := 77) rfl rfl rfl ⟨by decide, by decide, by decide⟩ ⟨by decide, by decide⟩ hidle.2.2.2 ?_
          refine jv_callV1 rfl rfl rfl rfl ⟨by decide, rfl⟩ (Nat.le_of_ble_eq_true rfl) (cl_take7_77 hmat (jg_im60 hidle 1 (by decide)) (fun μ18 hμ18 => ?_))
          show jV _ _ jm_p_X9_restore _ 19 [some (.inr (.inr 0)), some (.inl 1)] [] μ18
          refine jv_aload_n rfl rfl rfl (by decide) ?_
          refine jv_getr (w := 43) rfl rfl rfl ⟨by decide, rfl⟩ rfl rfl ?_
          refine jv_callV0 rfl rfl rfl rfl ⟨by decide, rfl⟩ (Nat.le_of_ble_eq_true rfl) (cl_forget (fun μ21 eμ21 => ?_))
          show jV _ _ jm_p_X9_restore _ 22 [some (.inr (.inr 0)), some (.inl 1)] [] μ21
          refine jv_iconst rfl rfl ?_
          refine jv_ireturn rfl (Or.inl rfl) ?_
          refine ⟨_, rfl, ?_⟩
          have c1 : ∀ z, (z < 7 ∨ z = 7 + 1 ∨ z = 7 + 2 ∨ 7 + 16 < z) → μ18 z = μ z := hμ18.1
          have c2 : ∀ z, (z < 7 ∨ z = 7 + 1 ∨ z = 7 + 2 ∨ 7 + 16 < z) → z ≠ 43 → μ21 z = μ z := fun z p q => by rw [eμ21, jm_off1 q, c1 z p]
          have g95 : μ21 95 = μ 95 := c2 95 (by omega) (by decide)
          have g96 : μ21 96 1 = μ 96 1 := by rw [c2 96 (by omega) (by decide)]
          refine jv_enter (d := 199) jm_p_X10_restore [some (.inr (.inr 94)), some (.inl 1)] rfl rfl rfl (Nat.le_of_ble_eq_true rfl) rfl rfl ?_
          refine jv_iload_n rfl rfl rfl ?_
          refine jv_i2l rfl rfl ?_
          refine jv_lconst rfl rfl ?_
          refine jv_lconst rfl rfl ?_
          refine jv_callS3 rfl rfl rfl (Nat.le_of_ble_eq_true rfl) (mo_in (fun b4 => ?_) (fun b4 => ?_))
          · first
            | (exfalso; omega)
            | skip
              show jV _ _ jm_p_X10_restore _ 5 [some (.inr (.inr 94)), some (.inl 1)] [.inl 1] μ21
              refine jv_if_neT rfl rfl (by decide) ?_
              refine jv_aload_n rfl rfl rfl (by decide) ?_
              refine jv_getr (w := 96) rfl rfl rfl ⟨by decide, rfl⟩ rfl rfl ?_
              refine jv_iload_n rfl rfl rfl ?_
              refine jv_baload rfl rfl rfl (by decide) ⟨by omega, by omega⟩ ?_
              refine jv_if_ne rfl rfl rfl (fun c12 => ?_) (fun c12 => ?_)
              · first
                | (exfalso; omega)
                | skip
                  refine jv_aload_n rfl rfl rfl (by decide) ?_
                  refine jv_sipush rfl rfl ?_
                  refine jv_bipush rfl rfl ?_
                  refine jv_iload_n rfl rfl rfl ?_
                  refine jv_imul rfl rfl ⟨by omega, by omega⟩ ?_
                  refine jv_iadd rfl rfl ⟨by omega, by omega⟩ ?_
                  refine jv_iconst rfl rfl ?_
                  refine jv_callV2 rfl rfl rfl rfl ⟨by decide, rfl⟩ (Nat.le_of_ble_eq_true rfl) (mo_copyTown (by omega) (by omega) (by omega) ?_)
                  generalize eν22 : jm_uc μ21 95 (jt_cp (μ21 95) (1550 + (62 * 1)) 0 62) = ν22
                  show jV _ _ jm_p_X10_restore _ 23 [some (.inr (.inr 94)), some (.inl 1)] [] ν22
                  refine jv_aload_n rfl rfl rfl (by decide) ?_
                  refine jv_iconst rfl rfl ?_
                  refine jv_puti rfl rfl rfl ⟨by decide, rfl⟩ (Or.inl rfl) (fun ν25 eν25 => ?_)
                  refine jv_iconst rfl rfl ?_
                  refine jv_ireturn rfl (Or.inl rfl) ?_
                  obtain ⟨c3, c4, c5, c6, c7, c8⟩ := himg.2.2.2 (by omega)
                  have f95 : ν25 95 = jt_cp (μ 95) (1550 + 62 * 1) 0 62 := by rw [eν25, jm_off1 (by decide), ← eν22, jm_uc_self, g95]
                  have ft : ∀ j, 0 ≤ j → j < 62 → (fun j => μ 95 (1550 + 62 * 1 + j)) j = ν25 95 j := fun j j0 j1 => by
                    rw [f95]
                    unfold jt_cp
                    rw [if_pos (by omega), show j - 0 = j by omega]
                  have fz : ∀ z, z ≠ 94 → z ≠ 95 → ν25 z = μ21 z := fun z p q => by rw [eν25, jm_off1 p, ← eν22, jm_off1 q]
                  have f94 : ν25 94 = jm_u1 (μ 94) 2 0 := by rw [eν25, jm_uc_self, ← eν22, jm_off1 (by decide), c2 94 (by omega) (by decide)]
                  have f43 : ν25 43 = jm_u1 (μ 43) 2 0 := by rw [fz 43 (by decide) (by decide), eμ21, jm_uc_self, c1 43 (by omega)]
                  have q := jhp_rel c3.1 c3.2.1 hμ18 c6
                  have hma : jh_mats μ18 7 := jg_mats (c1 8 (by omega)) (c1 9 (by omega)) hmat
                  have g7 : ∀ z, 7 ≤ z → z ≤ 7 + 16 → ν25 z = μ18 z := fun z p r => by rw [fz z (by omega) (by omega), eμ21, jm_off1 (by omega)]
                  have t0 := ft 0 (by decide) (by decide)
                  refine ⟨jv_one (by omega), jI_new hI (fun z p => by rw [fz z (by omega) (by omega)]; exact c2 z (by omega) (by omega)) ?_ ?_ ?_ ?_ ?_ (jt_wf_congr ft c3) (jt_cf_congr ft c4) (jt_kd_congr ft c3.2.1.2 c5) (jg_mats (g7 8 (by decide) (by decide)) (g7 9 (by decide) (by decide)) hma) (jg_rel hma g7 (fun j j0 j1 => (ft j j0 j1).symm) c3.1 c3.2.1 q) ?_ (fun j j0 j1 => ?_) ?_ ?_ ?_⟩
                  · rw [f94, fz 0 (by decide) (by decide), c2 0 (by omega) (by decide)]
                    exact hst
                  · rw [f94, fz 0 (by decide) (by decide), c2 0 (by omega) (by decide)]
                    exact hfa
                  · exact jg_tape (μ := μ) (by rw [fz 5 (by decide) (by decide), c2 5 (by omega) (by decide)]) (by rw [fz 6 (by decide) (by decide), c2 6 (by omega) (by decide)]) (by rw [fz 100 (by decide) (by decide), c2 100 (by omega) (by decide)]) (by rw [f94]; rfl) ⟨ht0, ht1, ht2⟩
                  · rw [f94]; rfl
                  · rw [f94]; exact c8
                  · have z0 : (fun j => μ 95 (1550 + 62 * 1 + j)) 0 = μ 95 (1550 + 62 * 1) := by show μ 95 (1550 + 62 * 1 + 0) = _; rw [Int.add_zero]
                    omega
                  · rw [f95]
                    unfold jt_cp
                    rw [if_neg (by omega)]
                  · rw [f94]; rfl
                  · rw [f43]; rfl
                  · rw [f43]
                    exact hpast.2.2.1
              · first
                | (exfalso; omega)
                | skip
                  refine jv_ldc rfl rfl ?_
                  refine jv_ireturn rfl (Or.inl rfl) ?_
                  exfalso; omega
          · first
            | (exfalso; omega)
            | skip
              show jV _ _ jm_p_X10_restore _ 5 [some (.inr (.inr 94)), some (.inl 1)] [.inl 0] μ21
              refine jv_if_neF rfl rfl (by decide) ?_
              refine jv_ldc rfl rfl ?_
              refine jv_ireturn rfl (Or.inl rfl) ?_
              exfalso; omega
      · first
        | (exfalso; omega)
        | skip
          refine jv_ldc rfl rfl ?_
          refine jv_ireturn rfl (Or.inl rfl) ?_
          refine ⟨_, rfl, ?_⟩
          skip
          refine jv_enter (d := 199) jm_p_X10_restore [some (.inr (.inr 94)), some (.inl 1)] rfl rfl rfl (Nat.le_of_ble_eq_true rfl) rfl rfl ?_
          refine jv_iload_n rfl rfl rfl ?_
          refine jv_i2l rfl rfl ?_
          refine jv_lconst rfl rfl ?_
          refine jv_lconst rfl rfl ?_
          refine jv_callS3 rfl rfl rfl (Nat.le_of_ble_eq_true rfl) (mo_in (fun b4 => ?_) (fun b4 => ?_))
          · first
            | (exfalso; omega)
            | skip
              show jV _ _ jm_p_X10_restore _ 5 [some (.inr (.inr 94)), some (.inl 1)] [.inl 1] μ
              refine jv_if_neT rfl rfl (by decide) ?_
              refine jv_aload_n rfl rfl rfl (by decide) ?_
              refine jv_getr (w := 96) rfl rfl rfl ⟨by decide, rfl⟩ rfl rfl ?_
              refine jv_iload_n rfl rfl rfl ?_
              refine jv_baload rfl rfl rfl (by decide) ⟨by omega, by omega⟩ ?_
              refine jv_if_ne rfl rfl rfl (fun c12 => ?_) (fun c12 => ?_)
              · first
                | (exfalso; omega)
                | skip
                  refine jv_aload_n rfl rfl rfl (by decide) ?_
                  refine jv_sipush rfl rfl ?_
                  refine jv_bipush rfl rfl ?_
                  refine jv_iload_n rfl rfl rfl ?_
                  refine jv_imul rfl rfl ⟨by omega, by omega⟩ ?_
                  refine jv_iadd rfl rfl ⟨by omega, by omega⟩ ?_
                  refine jv_iconst rfl rfl ?_
                  refine jv_callV2 rfl rfl rfl rfl ⟨by decide, rfl⟩ (Nat.le_of_ble_eq_true rfl) (mo_copyTown (by omega) (by omega) (by omega) ?_)
                  generalize eν22 : jm_uc μ 95 (jt_cp (μ 95) (1550 + (62 * 1)) 0 62) = ν22
                  show jV _ _ jm_p_X10_restore _ 23 [some (.inr (.inr 94)), some (.inl 1)] [] ν22
                  refine jv_aload_n rfl rfl rfl (by decide) ?_
                  refine jv_iconst rfl rfl ?_
                  refine jv_puti rfl rfl rfl ⟨by decide, rfl⟩ (Or.inl rfl) (fun ν25 eν25 => ?_)
                  refine jv_iconst rfl rfl ?_
                  refine jv_ireturn rfl (Or.inl rfl) ?_
                  exfalso; omega
              · first
                | (exfalso; omega)
                | skip
                  refine jv_ldc rfl rfl ?_
                  refine jv_ireturn rfl (Or.inl rfl) ?_
                  exact ⟨jv_one (by omega), hI⟩
          · first
            | (exfalso; omega)
            | skip
              show jV _ _ jm_p_X10_restore _ 5 [some (.inr (.inr 94)), some (.inl 1)] [.inl 0] μ
              refine jv_if_neF rfl rfl (by decide) ?_
              refine jv_ldc rfl rfl ?_
              refine jv_ireturn rfl (Or.inl rfl) ?_
              exact ⟨jv_one (by omega), hI⟩
set_option maxRecDepth 10000 in
set_option maxHeartbeats 1000000 in
theorem pr_imageN {X : jm_X} {k : Int} (r_k : jm_r k) (hk : k ≠ 0 ∧ k ≠ 1) : jp X 116 204 [.inl k] := by
  intro μ hI
  obtain ⟨⟨hit, hlan⟩, ⟨ht0, ht1, ht2⟩, ⟨hr0, hr1, hr2⟩, ⟨hst, hfa⟩, htown, hidle, himg, hpast⟩ := id hI
  obtain ⟨hwf, hcf, hkd, hmat, hrel, hh01, hhot, hnc⟩ := id htown
  obtain ⟨⟨r0, r1, r2, r3⟩, rm, rz, rc⟩ := id hrel
  obtain ⟨w0, w1, w2, w3, w4, w6, w7, w8⟩ := id hwf
  refine jv_enter (d := 199) jm_p_X9_image [some (.inr (.inr 0)), some (.inl k)] rfl rfl rfl (Nat.le_of_ble_eq_true rfl) rfl rfl ?_
  refine jv_iload_n rfl rfl rfl ?_
  refine jv_callS1 rfl rfl rfl (Nat.le_of_ble_eq_true rfl) (cl_noImage (fun b1 => ?_) (fun b1 => ?_))
  · first
    | (exfalso; omega)
    | skip
      show jV _ _ jm_p_X9_image _ 2 [some (.inr (.inr 0)), some (.inl k)] [.inl 1] μ
      refine jv_if_eqF rfl rfl (by decide) ?_
      refine jv_ldc rfl rfl ?_
      refine jv_ireturn rfl (Or.inl rfl) ?_
      refine ⟨_, rfl, ?_⟩
      refine jv_enter (d := 199) jm_p_X10_image [some (.inr (.inr 94)), some (.inl k)] rfl rfl rfl (Nat.le_of_ble_eq_true rfl) rfl rfl ?_
      refine jv_iload_n rfl rfl rfl ?_
      refine jv_i2l rfl rfl ?_
      refine jv_lconst rfl rfl ?_
      refine jv_lconst rfl rfl ?_
      refine jv_callS3 rfl rfl rfl (Nat.le_of_ble_eq_true rfl) (mo_in (fun b4 => ?_) (fun b4 => ?_))
      · first
        | (exfalso; omega)
        | skip
          show jV _ _ jm_p_X10_image _ 5 [some (.inr (.inr 94)), some (.inl k)] [.inl 1] μ
          refine jv_if_neT rfl rfl (by decide) ?_
          refine jv_aload_n rfl rfl rfl (by decide) ?_
          refine jv_geti rfl rfl rfl ⟨by decide, rfl⟩ (by decide) ?_
          refine jv_if_ne rfl rfl rfl (fun c10 => ?_) (fun c10 => ?_)
          · first
            | (exfalso; omega)
            | skip
              refine jv_aload_n rfl rfl rfl (by decide) ?_
              refine jv_iconst rfl rfl ?_
              refine jv_sipush rfl rfl ?_
              refine jv_bipush rfl rfl ?_
              refine jv_iload_n rfl rfl rfl ?_
              refine jv_imul rfl rfl ⟨by omega, by omega⟩ ?_
              refine jv_iadd rfl rfl ⟨by omega, by omega⟩ ?_
              refine jv_callV2 rfl rfl rfl rfl ⟨by decide, rfl⟩ (Nat.le_of_ble_eq_true rfl) (mo_copyTown (by omega) (by omega) (by omega) ?_)
              generalize eν20 : jm_uc μ 95 (jt_cp (μ 95) 0 (1550 + (62 * k)) 62) = ν20
              show jV _ _ jm_p_X10_image _ 21 [some (.inr (.inr 94)), some (.inl k)] [] ν20
              refine jv_aload_n rfl rfl rfl (by decide) ?_
              refine jv_getr (w := 96) rfl rfl rfl ⟨by decide, rfl⟩ rfl rfl ?_
              refine jv_iload_n rfl rfl rfl ?_
              refine jv_iconst rfl rfl ?_
              refine jv_bastore rfl rfl rfl (by decide) ⟨by omega, by omega⟩ (by decide) (fun ν25 eν25 => ?_)
              refine jv_iconst rfl rfl ?_
              refine jv_ireturn rfl (Or.inl rfl) ?_
              exact ⟨jv_one (by omega), hI⟩
          · first
            | (exfalso; omega)
            | skip
              refine jv_ldc rfl rfl ?_
              refine jv_ireturn rfl (Or.inl rfl) ?_
              exact ⟨jv_one (by omega), hI⟩
      · first
        | (exfalso; omega)
        | skip
          show jV _ _ jm_p_X10_image _ 5 [some (.inr (.inr 94)), some (.inl k)] [.inl 0] μ
          refine jv_if_neF rfl rfl (by decide) ?_
          refine jv_ldc rfl rfl ?_
          refine jv_ireturn rfl (Or.inl rfl) ?_
          exact ⟨jv_one (by omega), hI⟩
  · first
    | (exfalso; omega)
    | skip
      show jV _ _ jm_p_X9_image _ 2 [some (.inr (.inr 0)), some (.inl k)] [.inl 0] μ
      refine jv_if_eqT rfl rfl (by decide) ?_
      exfalso; omega
theorem pr_image {X : jm_X} {k : Int} (r_k : jm_r k) : jp X 116 204 [.inl k] := by
  by_cases h0 : k = 0
  · rw [h0]
    exact pr_image0
  · by_cases h1 : k = 1
    · rw [h1]
      exact pr_image1
    · exact pr_imageN r_k ⟨h0, h1⟩
set_option maxRecDepth 10000 in
set_option maxHeartbeats 1000000 in
theorem pr_restoreN {X : jm_X} {k : Int} (r_k : jm_r k) (hk : k ≠ 0 ∧ k ≠ 1) : jp X 117 205 [.inl k] := by
  intro μ hI
  obtain ⟨⟨hit, hlan⟩, ⟨ht0, ht1, ht2⟩, ⟨hr0, hr1, hr2⟩, ⟨hst, hfa⟩, htown, hidle, himg, hpast⟩ := id hI
  obtain ⟨hwf, hcf, hkd, hmat, hrel, hh01, hhot, hnc⟩ := id htown
  obtain ⟨⟨r0, r1, r2, r3⟩, rm, rz, rc⟩ := id hrel
  obtain ⟨w0, w1, w2, w3, w4, w6, w7, w8⟩ := id hwf
  refine jv_enter (d := 199) jm_p_X9_restore [some (.inr (.inr 0)), some (.inl k)] rfl rfl rfl (Nat.le_of_ble_eq_true rfl) rfl rfl ?_
  refine jv_iload_n rfl rfl rfl ?_
  refine jv_callS1 rfl rfl rfl (Nat.le_of_ble_eq_true rfl) (cl_noImage (fun b1 => ?_) (fun b1 => ?_))
  · first
    | (exfalso; omega)
    | skip
      show jV _ _ jm_p_X9_restore _ 2 [some (.inr (.inr 0)), some (.inl k)] [.inl 1] μ
      refine jv_if_eqF rfl rfl (by decide) ?_
      refine jv_ldc rfl rfl ?_
      refine jv_ireturn rfl (Or.inl rfl) ?_
      refine ⟨_, rfl, ?_⟩
      refine jv_enter (d := 199) jm_p_X10_restore [some (.inr (.inr 94)), some (.inl k)] rfl rfl rfl (Nat.le_of_ble_eq_true rfl) rfl rfl ?_
      refine jv_iload_n rfl rfl rfl ?_
      refine jv_i2l rfl rfl ?_
      refine jv_lconst rfl rfl ?_
      refine jv_lconst rfl rfl ?_
      refine jv_callS3 rfl rfl rfl (Nat.le_of_ble_eq_true rfl) (mo_in (fun b4 => ?_) (fun b4 => ?_))
      · first
        | (exfalso; omega)
        | skip
          show jV _ _ jm_p_X10_restore _ 5 [some (.inr (.inr 94)), some (.inl k)] [.inl 1] μ
          refine jv_if_neT rfl rfl (by decide) ?_
          refine jv_aload_n rfl rfl rfl (by decide) ?_
          refine jv_getr (w := 96) rfl rfl rfl ⟨by decide, rfl⟩ rfl rfl ?_
          refine jv_iload_n rfl rfl rfl ?_
          refine jv_baload rfl rfl rfl (by decide) ⟨by omega, by omega⟩ ?_
          refine jv_if_ne rfl rfl rfl (fun c12 => ?_) (fun c12 => ?_)
          · first
            | (exfalso; omega)
            | skip
              refine jv_aload_n rfl rfl rfl (by decide) ?_
              refine jv_sipush rfl rfl ?_
              refine jv_bipush rfl rfl ?_
              refine jv_iload_n rfl rfl rfl ?_
              refine jv_imul rfl rfl ⟨by omega, by omega⟩ ?_
              refine jv_iadd rfl rfl ⟨by omega, by omega⟩ ?_
              refine jv_iconst rfl rfl ?_
              refine jv_callV2 rfl rfl rfl rfl ⟨by decide, rfl⟩ (Nat.le_of_ble_eq_true rfl) (mo_copyTown (by omega) (by omega) (by omega) ?_)
              generalize eν22 : jm_uc μ 95 (jt_cp (μ 95) (1550 + (62 * k)) 0 62) = ν22
              show jV _ _ jm_p_X10_restore _ 23 [some (.inr (.inr 94)), some (.inl k)] [] ν22
              refine jv_aload_n rfl rfl rfl (by decide) ?_
              refine jv_iconst rfl rfl ?_
              refine jv_puti rfl rfl rfl ⟨by decide, rfl⟩ (Or.inl rfl) (fun ν25 eν25 => ?_)
              refine jv_iconst rfl rfl ?_
              refine jv_ireturn rfl (Or.inl rfl) ?_
              exact ⟨jv_one (by omega), hI⟩
          · first
            | (exfalso; omega)
            | skip
              refine jv_ldc rfl rfl ?_
              refine jv_ireturn rfl (Or.inl rfl) ?_
              exact ⟨jv_one (by omega), hI⟩
      · first
        | (exfalso; omega)
        | skip
          show jV _ _ jm_p_X10_restore _ 5 [some (.inr (.inr 94)), some (.inl k)] [.inl 0] μ
          refine jv_if_neF rfl rfl (by decide) ?_
          refine jv_ldc rfl rfl ?_
          refine jv_ireturn rfl (Or.inl rfl) ?_
          exact ⟨jv_one (by omega), hI⟩
  · first
    | (exfalso; omega)
    | skip
      show jV _ _ jm_p_X9_restore _ 2 [some (.inr (.inr 0)), some (.inl k)] [.inl 0] μ
      refine jv_if_eqT rfl rfl (by decide) ?_
      exfalso; omega
theorem pr_restore {X : jm_X} {k : Int} (r_k : jm_r k) : jp X 117 205 [.inl k] := by
  by_cases h0 : k = 0
  · rw [h0]
    exact pr_restore0
  · by_cases h1 : k = 1
    · rw [h1]
      exact pr_restore1
    · exact pr_restoreN r_k ⟨h0, h1⟩
