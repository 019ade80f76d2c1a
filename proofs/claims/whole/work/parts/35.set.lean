set_option maxRecDepth 10000 in
theorem cl_put {X : jm_X} {d : Nat} {Q : jv_P} {μ : jm_M} {r a y : Int} (hr : 0 ≤ r ∧ r < 8) (ha : 0 ≤ a ∧ a < 40) (k : ∀ μ2, μ2 = jm_uc μ 2 (jm_u1 (μ 2) (40 * r + a) (if μ 3 r = 0 then y.bmod 256 else if μ 3 r = 1 then y.bmod 65536 else y)) → Q [.inl (if μ 3 r = 0 then y.bmod 256 else if μ 3 r = 1 then y.bmod 65536 else y)] μ2) : cV X (d + 1) 78 [.inr (.inr 1), .inl r, .inl a, .inl y] μ Q := by
  refine jv_enter (d := d + 0) jm_p_X7_put [some (.inr (.inr 1)), some (.inl r), some (.inl a), some (.inl y), none] rfl rfl rfl (Nat.le_of_ble_eq_true rfl) rfl rfl ?_
  refine jv_iload_n rfl rfl rfl ?_
  refine jv_istore (fun x => [some (.inr (.inr 1)), some (.inl r), some (.inl a), some (.inl y), some (.inl x)]) rfl rfl (fun _ => rfl) (fun x4_1 ex4_1 => ?_)
  refine jv_aload_n rfl rfl rfl (by decide) ?_
  refine jv_getr (w := 3) rfl rfl rfl ⟨by decide, rfl⟩ rfl rfl ?_
  refine jv_iload_n rfl rfl rfl ?_
  refine jv_iaload rfl rfl (by decide) rfl ⟨by omega, by omega⟩ ?_
  refine jv_if_ne rfl rfl rfl (fun c6 => ?_) (fun c6 => ?_)
  · refine jv_aload_n rfl rfl rfl (by decide) ?_
    refine jv_getr (w := 3) rfl rfl rfl ⟨by decide, rfl⟩ rfl rfl ?_
    refine jv_iload_n rfl rfl rfl ?_
    refine jv_iaload rfl rfl (by decide) rfl ⟨by omega, by omega⟩ ?_
    refine jv_iconst rfl rfl ?_
    refine jv_icmp_ne rfl rfl rfl (fun c16 => ?_) (fun c16 => ?_)
    · refine jv_aload_n rfl rfl rfl (by decide) ?_
      refine jv_getr (w := 2) rfl rfl rfl ⟨by decide, rfl⟩ rfl rfl ?_
      refine jv_iload_n rfl rfl rfl ?_
      refine jv_bipush rfl rfl ?_
      refine jv_imul rfl rfl ⟨by omega, by omega⟩ ?_
      refine jv_iload_n rfl rfl rfl ?_
      refine jv_iadd rfl rfl ⟨by omega, by omega⟩ ?_
      refine jv_iload rfl rfl rfl ?_
      refine jv_iastore rfl rfl rfl (by decide) ⟨by omega, by omega⟩ (fun μ28 eμ28 => ?_)
      refine jv_iload rfl rfl rfl ?_
      refine jv_ireturn rfl (Or.inl rfl) ?_
      have e : x4_1 = (if μ 3 r = 0 then y.bmod 256 else if μ 3 r = 1 then y.bmod 65536 else y) := by
        subst_vars
        simp_all
      rw [e]
      exact k _ (by rw [eμ28, e, show r * 40 + a = 40 * r + a by omega])
    · refine jv_iload_n rfl rfl rfl ?_
      refine jv_i2s rfl rfl ?_
      refine jv_istore (fun x => [some (.inr (.inr 1)), some (.inl r), some (.inl a), some (.inl y), some (.inl x)]) rfl rfl (fun _ => rfl) (fun x4_19 ex4_19 => ?_)
      refine jv_aload_n rfl rfl rfl (by decide) ?_
      refine jv_getr (w := 2) rfl rfl rfl ⟨by decide, rfl⟩ rfl rfl ?_
      refine jv_iload_n rfl rfl rfl ?_
      refine jv_bipush rfl rfl ?_
      refine jv_imul rfl rfl ⟨by omega, by omega⟩ ?_
      refine jv_iload_n rfl rfl rfl ?_
      refine jv_iadd rfl rfl ⟨by omega, by omega⟩ ?_
      refine jv_iload rfl rfl rfl ?_
      refine jv_iastore rfl rfl rfl (by decide) ⟨by omega, by omega⟩ (fun μ28_1 eμ28_1 => ?_)
      refine jv_iload rfl rfl rfl ?_
      refine jv_ireturn rfl (Or.inl rfl) ?_
      have e : x4_19 = (if μ 3 r = 0 then y.bmod 256 else if μ 3 r = 1 then y.bmod 65536 else y) := by
        subst_vars
        simp_all
      rw [e]
      exact k _ (by rw [eμ28_1, e, show r * 40 + a = 40 * r + a by omega])
  · refine jv_iload_n rfl rfl rfl ?_
    refine jv_i2b rfl rfl ?_
    refine jv_istore (fun x => [some (.inr (.inr 1)), some (.inl r), some (.inl a), some (.inl y), some (.inl x)]) rfl rfl (fun _ => rfl) (fun x4_9 ex4_9 => ?_)
    refine jv_goto rfl rfl ?_
    refine jv_aload_n rfl rfl rfl (by decide) ?_
    refine jv_getr (w := 2) rfl rfl rfl ⟨by decide, rfl⟩ rfl rfl ?_
    refine jv_iload_n rfl rfl rfl ?_
    refine jv_bipush rfl rfl ?_
    refine jv_imul rfl rfl ⟨by omega, by omega⟩ ?_
    refine jv_iload_n rfl rfl rfl ?_
    refine jv_iadd rfl rfl ⟨by omega, by omega⟩ ?_
    refine jv_iload rfl rfl rfl ?_
    refine jv_iastore rfl rfl rfl (by decide) ⟨by omega, by omega⟩ (fun μ28_2 eμ28_2 => ?_)
    refine jv_iload rfl rfl rfl ?_
    refine jv_ireturn rfl (Or.inl rfl) ?_
    have e : x4_9 = (if μ 3 r = 0 then y.bmod 256 else if μ 3 r = 1 then y.bmod 65536 else y) := by
      subst_vars
      simp_all
    rw [e]
    exact k _ (by rw [eμ28_2, e, show r * 40 + a = 40 * r + a by omega])
set_option maxRecDepth 10000 in
theorem cl_remove {X : jm_X} {d : Nat} {Q : jv_P} {μ : jm_M} {r : Int} (hr : 0 ≤ r ∧ r < 8) (k : ∀ μ2, μ2 = jm_uc μ 4 (jm_u1 (μ 4) r (-1)) → Q [.inl (μ 4 r)] μ2) : cV X (d + 1) 80 [.inr (.inr 1), .inl r] μ Q := by
  refine jv_enter (d := d + 0) jm_p_X7_remove [some (.inr (.inr 1)), some (.inl r), none] rfl rfl rfl (Nat.le_of_ble_eq_true rfl) rfl rfl ?_
  refine jv_aload_n rfl rfl rfl (by decide) ?_
  refine jv_getr (w := 4) rfl rfl rfl ⟨by decide, rfl⟩ rfl rfl ?_
  refine jv_iload_n rfl rfl rfl ?_
  refine jv_iaload rfl rfl (by decide) rfl ⟨by omega, by omega⟩ ?_
  refine jv_istore_n (fun x => [some (.inr (.inr 1)), some (.inl r), some (.inl x)]) rfl rfl (fun _ => rfl) (fun x2_4 ex2_4 => ?_)
  refine jv_aload_n rfl rfl rfl (by decide) ?_
  refine jv_getr (w := 4) rfl rfl rfl ⟨by decide, rfl⟩ rfl rfl ?_
  refine jv_iload_n rfl rfl rfl ?_
  refine jv_iconst rfl rfl ?_
  refine jv_iastore rfl rfl rfl (by decide) ⟨by omega, by omega⟩ (fun μ9 eμ9 => ?_)
  refine jv_iload_n rfl rfl rfl ?_
  refine jv_ireturn rfl (Or.inl rfl) ?_
  rw [ex2_4]
  exact k _ eμ9
set_option maxRecDepth 10000 in
set_option maxHeartbeats 1000000 in
theorem pr_set {X : jm_X} {r : Int} {a : Int} {y : Int} (r_r : jm_r r) (r_a : jm_r a) (r_y : jm_r y) : jp X 89 143 [.inl r, .inl a, .inl y] := by
  intro μ hI
  obtain ⟨⟨hit, hlan⟩, ⟨ht0, ht1, ht2⟩, ⟨hr0, hr1, hr2⟩, ⟨hst, hfa⟩, htown, hidle, himg, hpast⟩ := id hI
  obtain ⟨hwf, hcf, hkd, hmat, hrel, hh01, hhot, hnc⟩ := id htown
  obtain ⟨⟨r0, r1, r2, r3⟩, rm, rz, rc⟩ := id hrel
  obtain ⟨w0, w1, w2, w3, w4, w6, w7, w8⟩ := id hwf
  have hl := hlan r
  refine jv_enter (d := 199) jm_p_X9_set [some (.inr (.inr 0)), some (.inl r), some (.inl a), some (.inl y)] rfl rfl rfl (Nat.le_of_ble_eq_true rfl) rfl rfl ?_
  refine jv_iload_n rfl rfl rfl ?_
  refine jv_callS1 rfl rfl rfl (Nat.le_of_ble_eq_true rfl) (cl_noRow (fun b1 => ?_) (fun b1 => ?_))
  · show jV _ _ jm_p_X9_set _ 2 [some (.inr (.inr 0)), some (.inl r), some (.inl a), some (.inl y)] [.inl 1] μ
    refine jv_if_eqF rfl rfl (by decide) ?_
    refine jv_ldc rfl rfl ?_
    refine jv_ireturn rfl (Or.inl rfl) ?_
    refine ⟨_, rfl, ?_⟩
    skip
    refine jv_enter (d := 199) jm_p_X10_set [some (.inr (.inr 94)), some (.inl r), some (.inl a), some (.inl y)] rfl rfl rfl (Nat.le_of_ble_eq_true rfl) rfl rfl ?_
    refine jv_iload_n rfl rfl rfl ?_
    refine jv_callS1 rfl rfl rfl (Nat.le_of_ble_eq_true rfl) (mo_isRow (fun b1 => ?_) (fun b1 => ?_))
    · first
      | (exfalso; omega)
      | skip
        show jV _ _ jm_p_X10_set _ 2 [some (.inr (.inr 94)), some (.inl r), some (.inl a), some (.inl y)] [.inl 1] μ
        refine jv_if_neT rfl rfl (by decide) ?_
        refine jv_aload_n rfl rfl rfl (by decide) ?_
        refine jv_getr (w := 98) rfl rfl rfl ⟨by decide, rfl⟩ rfl rfl ?_
        refine jv_iload_n rfl rfl rfl ?_
        refine jv_iaload rfl rfl (by decide) rfl ⟨by omega, by omega⟩ ?_
        refine jv_if_ge rfl rfl rfl (fun c9 => ?_) (fun c9 => ?_)
        · first
          | (exfalso; omega)
          | skip
            refine jv_iload_n rfl rfl rfl ?_
            refine jv_i2l rfl rfl ?_
            refine jv_lconst rfl rfl ?_
            refine jv_aload_n rfl rfl rfl (by decide) ?_
            refine jv_getr (w := 98) rfl rfl rfl ⟨by decide, rfl⟩ rfl rfl ?_
            refine jv_iload_n rfl rfl rfl ?_
            refine jv_iaload rfl rfl (by decide) rfl ⟨by omega, by omega⟩ ?_
            refine jv_iconst rfl rfl ?_
            refine jv_isub rfl rfl ⟨by omega, by omega⟩ ?_
            refine jv_i2l rfl rfl ?_
            refine jv_callS3 rfl rfl rfl (Nat.le_of_ble_eq_true rfl) (mo_in (fun b24 => ?_) (fun b24 => ?_))
            · first
              | (exfalso; omega)
              | skip
                show jV _ _ jm_p_X10_set _ 25 [some (.inr (.inr 94)), some (.inl r), some (.inl a), some (.inl y)] [.inl 1] μ
                refine jv_if_neT rfl rfl (by decide) ?_
                refine jv_aload_n rfl rfl rfl (by decide) ?_
                refine jv_getr (w := 99) rfl rfl rfl ⟨by decide, rfl⟩ rfl rfl ?_
                refine jv_bipush rfl rfl ?_
                refine jv_iload_n rfl rfl rfl ?_
                refine jv_imul rfl rfl ⟨by omega, by omega⟩ ?_
                refine jv_iload_n rfl rfl rfl ?_
                refine jv_iadd rfl rfl ⟨by omega, by omega⟩ ?_
                refine jv_iload_n rfl rfl rfl ?_
                refine jv_aload_n rfl rfl rfl (by decide) ?_
                refine jv_getr (w := 97) rfl rfl rfl ⟨by decide, rfl⟩ rfl rfl ?_
                refine jv_iload_n rfl rfl rfl ?_
                refine jv_iaload rfl rfl (by decide) rfl ⟨by omega, by omega⟩ ?_
                refine jv_callS2 rfl rfl rfl (Nat.le_of_ble_eq_true rfl) (mo_narrow ?_)
                show jV _ _ jm_p_X10_set _ 43 [some (.inr (.inr 94)), some (.inl r), some (.inl a), some (.inl y)] [.inl (if (μ 97 r) = 0 then Int.bmod y 256 else if (μ 97 r) = 1 then Int.bmod y 65536 else y), .inl ((40 * r) + a), .inr (.inr 99)] μ
                refine jv_iastore rfl rfl rfl (by decide) ⟨by omega, by omega⟩ (fun ν43 eν43 => ?_)
                refine jv_aload_n rfl rfl rfl (by decide) ?_
                refine jv_aload_n rfl rfl rfl (by decide) ?_
                refine jv_getr (w := 99) rfl rfl rfl ⟨by decide, rfl⟩ rfl rfl ?_
                refine jv_bipush rfl rfl ?_
                refine jv_iload_n rfl rfl rfl ?_
                refine jv_imul rfl rfl ⟨by omega, by omega⟩ ?_
                refine jv_iload_n rfl rfl rfl ?_
                refine jv_iadd rfl rfl ⟨by omega, by omega⟩ ?_
                refine jv_iaload rfl rfl (by decide) rfl ⟨by omega, by omega⟩ ?_
                refine jv_callV1 rfl rfl rfl rfl ⟨by decide, rfl⟩ (Nat.le_of_ble_eq_true rfl) (mo_well (fun ν53 eν53 => ?_))
                show jV _ _ jm_p_X10_set _ 54 [some (.inr (.inr 94)), some (.inl r), some (.inl a), some (.inl y)] [.inl (ν43 99 ((40 * r) + a))] ν53
                refine jv_ireturn rfl (Or.inl rfl) ?_
                exact ⟨jv_one (by omega), by exfalso; omega⟩
            · first
              | (exfalso; omega)
              | skip
                show jV _ _ jm_p_X10_set _ 25 [some (.inr (.inr 94)), some (.inl r), some (.inl a), some (.inl y)] [.inl 0] μ
                refine jv_if_neF rfl rfl (by decide) ?_
                refine jv_aload_n rfl rfl rfl (by decide) ?_
                refine jv_iconst rfl rfl ?_
                refine jv_callV1 rfl rfl rfl rfl ⟨by decide, rfl⟩ (Nat.le_of_ble_eq_true rfl) (mo_find (by omega) (fun ν28 eν28 => ?_))
                show jV _ _ jm_p_X10_set _ 29 [some (.inr (.inr 94)), some (.inl r), some (.inl a), some (.inl y)] [.inl (-1000010 - 2)] ν28
                refine jv_ireturn rfl (Or.inl rfl) ?_
                exact ⟨jv_one (by omega), by exfalso; omega⟩
        · first
          | (exfalso; omega)
          | skip
            refine jv_aload_n rfl rfl rfl (by decide) ?_
            refine jv_iconst rfl rfl ?_
            refine jv_callV1 rfl rfl rfl rfl ⟨by decide, rfl⟩ (Nat.le_of_ble_eq_true rfl) (mo_find (by omega) (fun ν12 eν12 => ?_))
            show jV _ _ jm_p_X10_set _ 13 [some (.inr (.inr 94)), some (.inl r), some (.inl a), some (.inl y)] [.inl (-1000010 - 1)] ν12
            refine jv_ireturn rfl (Or.inl rfl) ?_
            exact ⟨jv_one (by omega), by exfalso; omega⟩
    · first
      | (exfalso; omega)
      | skip
        show jV _ _ jm_p_X10_set _ 2 [some (.inr (.inr 94)), some (.inl r), some (.inl a), some (.inl y)] [.inl 0] μ
        refine jv_if_neF rfl rfl (by decide) ?_
        refine jv_ldc rfl rfl ?_
        refine jv_ireturn rfl (Or.inl rfl) ?_
        exact ⟨jv_one (by omega), hI⟩
  · show jV _ _ jm_p_X9_set _ 2 [some (.inr (.inr 0)), some (.inl r), some (.inl a), some (.inl y)] [.inl 0] μ
    refine jv_if_eqT rfl rfl (by decide) ?_
    refine jv_aload_n rfl rfl rfl (by decide) ?_
    refine jv_getr (w := 1) rfl rfl rfl ⟨by decide, rfl⟩ rfl rfl ?_
    refine jv_iload_n rfl rfl rfl ?_
    refine jv_callV1 rfl rfl rfl rfl ⟨by decide, rfl⟩ (Nat.le_of_ble_eq_true rfl) (cl_isMissing (by omega) (fun b8 => ?_) (fun b8 => ?_))
    · show jV _ _ jm_p_X9_set _ 9 [some (.inr (.inr 0)), some (.inl r), some (.inl a), some (.inl y)] [.inl 1] μ
      refine jv_if_eqF rfl rfl (by decide) ?_
      refine jv_aload_n rfl rfl rfl (by decide) ?_
      refine jv_iconst rfl rfl ?_
      refine jv_callV1 rfl rfl rfl rfl ⟨by decide, rfl⟩ (Nat.le_of_ble_eq_true rfl) (cl_found (by omega) (fun μ12 eμ12 => ?_))
      show jV _ _ jm_p_X9_set _ 13 [some (.inr (.inr 0)), some (.inl r), some (.inl a), some (.inl y)] [.inl (-1000010 - 1)] μ12
      refine jv_ireturn rfl (Or.inl rfl) ?_
      refine ⟨_, rfl, ?_⟩
      have f97r : μ12 97 r = μ 97 r := by rw [eμ12]; rfl
      have f98r : μ12 98 r = μ 98 r := by rw [eμ12]; rfl
      refine jv_enter (d := 199) jm_p_X10_set [some (.inr (.inr 94)), some (.inl r), some (.inl a), some (.inl y)] rfl rfl rfl (Nat.le_of_ble_eq_true rfl) rfl rfl ?_
      refine jv_iload_n rfl rfl rfl ?_
      refine jv_callS1 rfl rfl rfl (Nat.le_of_ble_eq_true rfl) (mo_isRow (fun b1 => ?_) (fun b1 => ?_))
      · first
        | (exfalso; omega)
        | skip
          show jV _ _ jm_p_X10_set _ 2 [some (.inr (.inr 94)), some (.inl r), some (.inl a), some (.inl y)] [.inl 1] μ12
          refine jv_if_neT rfl rfl (by decide) ?_
          refine jv_aload_n rfl rfl rfl (by decide) ?_
          refine jv_getr (w := 98) rfl rfl rfl ⟨by decide, rfl⟩ rfl rfl ?_
          refine jv_iload_n rfl rfl rfl ?_
          refine jv_iaload rfl rfl (by decide) rfl ⟨by omega, by omega⟩ ?_
          refine jv_if_ge rfl rfl rfl (fun c9 => ?_) (fun c9 => ?_)
          · first
            | (exfalso; omega)
            | skip
              refine jv_iload_n rfl rfl rfl ?_
              refine jv_i2l rfl rfl ?_
              refine jv_lconst rfl rfl ?_
              refine jv_aload_n rfl rfl rfl (by decide) ?_
              refine jv_getr (w := 98) rfl rfl rfl ⟨by decide, rfl⟩ rfl rfl ?_
              refine jv_iload_n rfl rfl rfl ?_
              refine jv_iaload rfl rfl (by decide) rfl ⟨by omega, by omega⟩ ?_
              refine jv_iconst rfl rfl ?_
              refine jv_isub rfl rfl ⟨by omega, by omega⟩ ?_
              refine jv_i2l rfl rfl ?_
              refine jv_callS3 rfl rfl rfl (Nat.le_of_ble_eq_true rfl) (mo_in (fun b24 => ?_) (fun b24 => ?_))
              · first
                | (exfalso; omega)
                | skip
                  show jV _ _ jm_p_X10_set _ 25 [some (.inr (.inr 94)), some (.inl r), some (.inl a), some (.inl y)] [.inl 1] μ12
                  refine jv_if_neT rfl rfl (by decide) ?_
                  refine jv_aload_n rfl rfl rfl (by decide) ?_
                  refine jv_getr (w := 99) rfl rfl rfl ⟨by decide, rfl⟩ rfl rfl ?_
                  refine jv_bipush rfl rfl ?_
                  refine jv_iload_n rfl rfl rfl ?_
                  refine jv_imul rfl rfl ⟨by omega, by omega⟩ ?_
                  refine jv_iload_n rfl rfl rfl ?_
                  refine jv_iadd rfl rfl ⟨by omega, by omega⟩ ?_
                  refine jv_iload_n rfl rfl rfl ?_
                  refine jv_aload_n rfl rfl rfl (by decide) ?_
                  refine jv_getr (w := 97) rfl rfl rfl ⟨by decide, rfl⟩ rfl rfl ?_
                  refine jv_iload_n rfl rfl rfl ?_
                  refine jv_iaload rfl rfl (by decide) rfl ⟨by omega, by omega⟩ ?_
                  refine jv_callS2 rfl rfl rfl (Nat.le_of_ble_eq_true rfl) (mo_narrow ?_)
                  show jV _ _ jm_p_X10_set _ 43 [some (.inr (.inr 94)), some (.inl r), some (.inl a), some (.inl y)] [.inl (if (μ12 97 r) = 0 then Int.bmod y 256 else if (μ12 97 r) = 1 then Int.bmod y 65536 else y), .inl ((40 * r) + a), .inr (.inr 99)] μ12
                  refine jv_iastore rfl rfl rfl (by decide) ⟨by omega, by omega⟩ (fun ν43 eν43 => ?_)
                  refine jv_aload_n rfl rfl rfl (by decide) ?_
                  refine jv_aload_n rfl rfl rfl (by decide) ?_
                  refine jv_getr (w := 99) rfl rfl rfl ⟨by decide, rfl⟩ rfl rfl ?_
                  refine jv_bipush rfl rfl ?_
                  refine jv_iload_n rfl rfl rfl ?_
                  refine jv_imul rfl rfl ⟨by omega, by omega⟩ ?_
                  refine jv_iload_n rfl rfl rfl ?_
                  refine jv_iadd rfl rfl ⟨by omega, by omega⟩ ?_
                  refine jv_iaload rfl rfl (by decide) rfl ⟨by omega, by omega⟩ ?_
                  refine jv_callV1 rfl rfl rfl rfl ⟨by decide, rfl⟩ (Nat.le_of_ble_eq_true rfl) (mo_well (fun ν53 eν53 => ?_))
                  show jV _ _ jm_p_X10_set _ 54 [some (.inr (.inr 94)), some (.inl r), some (.inl a), some (.inl y)] [.inl (ν43 99 ((40 * r) + a))] ν53
                  refine jv_ireturn rfl (Or.inl rfl) ?_
                  exact ⟨jv_one (by omega), by exfalso; omega⟩
              · first
                | (exfalso; omega)
                | skip
                  show jV _ _ jm_p_X10_set _ 25 [some (.inr (.inr 94)), some (.inl r), some (.inl a), some (.inl y)] [.inl 0] μ12
                  refine jv_if_neF rfl rfl (by decide) ?_
                  refine jv_aload_n rfl rfl rfl (by decide) ?_
                  refine jv_iconst rfl rfl ?_
                  refine jv_callV1 rfl rfl rfl rfl ⟨by decide, rfl⟩ (Nat.le_of_ble_eq_true rfl) (mo_find (by omega) (fun ν28 eν28 => ?_))
                  show jV _ _ jm_p_X10_set _ 29 [some (.inr (.inr 94)), some (.inl r), some (.inl a), some (.inl y)] [.inl (-1000010 - 2)] ν28
                  refine jv_ireturn rfl (Or.inl rfl) ?_
                  exact ⟨jv_one (by omega), jI_find hI eμ12 eν28⟩
          · first
            | (exfalso; omega)
            | skip
              refine jv_aload_n rfl rfl rfl (by decide) ?_
              refine jv_iconst rfl rfl ?_
              refine jv_callV1 rfl rfl rfl rfl ⟨by decide, rfl⟩ (Nat.le_of_ble_eq_true rfl) (mo_find (by omega) (fun ν12 eν12 => ?_))
              show jV _ _ jm_p_X10_set _ 13 [some (.inr (.inr 94)), some (.inl r), some (.inl a), some (.inl y)] [.inl (-1000010 - 1)] ν12
              refine jv_ireturn rfl (Or.inl rfl) ?_
              exact ⟨jv_one (by omega), jI_find hI eμ12 eν12⟩
      · first
        | (exfalso; omega)
        | skip
          show jV _ _ jm_p_X10_set _ 2 [some (.inr (.inr 94)), some (.inl r), some (.inl a), some (.inl y)] [.inl 0] μ12
          refine jv_if_neF rfl rfl (by decide) ?_
          refine jv_ldc rfl rfl ?_
          refine jv_ireturn rfl (Or.inl rfl) ?_
          exact ⟨jv_one (by omega), by exfalso; omega⟩
    · show jV _ _ jm_p_X9_set _ 9 [some (.inr (.inr 0)), some (.inl r), some (.inl a), some (.inl y)] [.inl 0] μ
      refine jv_if_eqT rfl rfl (by decide) ?_
      refine jv_aload_n rfl rfl rfl (by decide) ?_
      refine jv_getr (w := 1) rfl rfl rfl ⟨by decide, rfl⟩ rfl rfl ?_
      refine jv_iload_n rfl rfl rfl ?_
      refine jv_iload_n rfl rfl rfl ?_
      refine jv_iconst rfl rfl ?_
      refine jv_callV3 rfl rfl rfl rfl ⟨by decide, rfl⟩ (Nat.le_of_ble_eq_true rfl) (cl_reaches (by omega) (by omega) (by omega) (fun b19 => ?_) (fun b19 => ?_))
      · show jV _ _ jm_p_X9_set _ 20 [some (.inr (.inr 0)), some (.inl r), some (.inl a), some (.inl y)] [.inl 1] μ
        refine jv_if_neT rfl rfl (by decide) ?_
        refine jv_aload_n rfl rfl rfl (by decide) ?_
        refine jv_aload_n rfl rfl rfl (by decide) ?_
        refine jv_getr (w := 1) rfl rfl rfl ⟨by decide, rfl⟩ rfl rfl ?_
        refine jv_iload_n rfl rfl rfl ?_
        refine jv_iload_n rfl rfl rfl ?_
        refine jv_iload_n rfl rfl rfl ?_
        refine jv_callV3 rfl rfl rfl rfl ⟨by decide, rfl⟩ (Nat.le_of_ble_eq_true rfl) (cl_put (by omega) (by omega) (fun μ31 eμ31 => ?_))
        show jV _ _ jm_p_X9_set _ 32 [some (.inr (.inr 0)), some (.inl r), some (.inl a), some (.inl y)] [.inl (if μ 3 r = 0 then Int.bmod y 256 else if μ 3 r = 1 then Int.bmod y 65536 else y), .inr (.inr 0)] μ31
        refine jv_callV1 rfl rfl rfl rfl ⟨by decide, rfl⟩ (Nat.le_of_ble_eq_true rfl) (cl_unfound (fun μ32 eμ32 => ?_))
        show jV _ _ jm_p_X9_set _ 33 [some (.inr (.inr 0)), some (.inl r), some (.inl a), some (.inl y)] [.inl (if μ 3 r = 0 then Int.bmod y 256 else if μ 3 r = 1 then Int.bmod y 65536 else y)] μ32
        refine jv_ireturn rfl (Or.inl rfl) ?_
        refine ⟨_, rfl, ?_⟩
        have f97r : μ32 97 r = μ 97 r := by rw [eμ32, eμ31]; rfl
        have f98r : μ32 98 r = μ 98 r := by rw [eμ32, eμ31]; rfl
        have eca := eμ31
        have ecb := eμ32
        refine jv_enter (d := 199) jm_p_X10_set [some (.inr (.inr 94)), some (.inl r), some (.inl a), some (.inl y)] rfl rfl rfl (Nat.le_of_ble_eq_true rfl) rfl rfl ?_
        refine jv_iload_n rfl rfl rfl ?_
        refine jv_callS1 rfl rfl rfl (Nat.le_of_ble_eq_true rfl) (mo_isRow (fun b1 => ?_) (fun b1 => ?_))
        · first
          | (exfalso; omega)
          | skip
            show jV _ _ jm_p_X10_set _ 2 [some (.inr (.inr 94)), some (.inl r), some (.inl a), some (.inl y)] [.inl 1] μ32
            refine jv_if_neT rfl rfl (by decide) ?_
            refine jv_aload_n rfl rfl rfl (by decide) ?_
            refine jv_getr (w := 98) rfl rfl rfl ⟨by decide, rfl⟩ rfl rfl ?_
            refine jv_iload_n rfl rfl rfl ?_
            refine jv_iaload rfl rfl (by decide) rfl ⟨by omega, by omega⟩ ?_
            refine jv_if_ge rfl rfl rfl (fun c9 => ?_) (fun c9 => ?_)
            · first
              | (exfalso; omega)
              | skip
                refine jv_iload_n rfl rfl rfl ?_
                refine jv_i2l rfl rfl ?_
                refine jv_lconst rfl rfl ?_
                refine jv_aload_n rfl rfl rfl (by decide) ?_
                refine jv_getr (w := 98) rfl rfl rfl ⟨by decide, rfl⟩ rfl rfl ?_
                refine jv_iload_n rfl rfl rfl ?_
                refine jv_iaload rfl rfl (by decide) rfl ⟨by omega, by omega⟩ ?_
                refine jv_iconst rfl rfl ?_
                refine jv_isub rfl rfl ⟨by omega, by omega⟩ ?_
                refine jv_i2l rfl rfl ?_
                refine jv_callS3 rfl rfl rfl (Nat.le_of_ble_eq_true rfl) (mo_in (fun b24 => ?_) (fun b24 => ?_))
                · first
                  | (exfalso; omega)
                  | skip
                    show jV _ _ jm_p_X10_set _ 25 [some (.inr (.inr 94)), some (.inl r), some (.inl a), some (.inl y)] [.inl 1] μ32
                    refine jv_if_neT rfl rfl (by decide) ?_
                    refine jv_aload_n rfl rfl rfl (by decide) ?_
                    refine jv_getr (w := 99) rfl rfl rfl ⟨by decide, rfl⟩ rfl rfl ?_
                    refine jv_bipush rfl rfl ?_
                    refine jv_iload_n rfl rfl rfl ?_
                    refine jv_imul rfl rfl ⟨by omega, by omega⟩ ?_
                    refine jv_iload_n rfl rfl rfl ?_
                    refine jv_iadd rfl rfl ⟨by omega, by omega⟩ ?_
                    refine jv_iload_n rfl rfl rfl ?_
                    refine jv_aload_n rfl rfl rfl (by decide) ?_
                    refine jv_getr (w := 97) rfl rfl rfl ⟨by decide, rfl⟩ rfl rfl ?_
                    refine jv_iload_n rfl rfl rfl ?_
                    refine jv_iaload rfl rfl (by decide) rfl ⟨by omega, by omega⟩ ?_
                    refine jv_callS2 rfl rfl rfl (Nat.le_of_ble_eq_true rfl) (mo_narrow ?_)
                    show jV _ _ jm_p_X10_set _ 43 [some (.inr (.inr 94)), some (.inl r), some (.inl a), some (.inl y)] [.inl (if (μ32 97 r) = 0 then Int.bmod y 256 else if (μ32 97 r) = 1 then Int.bmod y 65536 else y), .inl ((40 * r) + a), .inr (.inr 99)] μ32
                    refine jv_iastore rfl rfl rfl (by decide) ⟨by omega, by omega⟩ (fun ν43 eν43 => ?_)
                    refine jv_aload_n rfl rfl rfl (by decide) ?_
                    refine jv_aload_n rfl rfl rfl (by decide) ?_
                    refine jv_getr (w := 99) rfl rfl rfl ⟨by decide, rfl⟩ rfl rfl ?_
                    refine jv_bipush rfl rfl ?_
                    refine jv_iload_n rfl rfl rfl ?_
                    refine jv_imul rfl rfl ⟨by omega, by omega⟩ ?_
                    refine jv_iload_n rfl rfl rfl ?_
                    refine jv_iadd rfl rfl ⟨by omega, by omega⟩ ?_
                    refine jv_iaload rfl rfl (by decide) rfl ⟨by omega, by omega⟩ ?_
                    refine jv_callV1 rfl rfl rfl rfl ⟨by decide, rfl⟩ (Nat.le_of_ble_eq_true rfl) (mo_well (fun ν53 eν53 => ?_))
                    show jV _ _ jm_p_X10_set _ 54 [some (.inr (.inr 94)), some (.inl r), some (.inl a), some (.inl y)] [.inl (ν43 99 ((40 * r) + a))] ν53
                    refine jv_ireturn rfl (Or.inl rfl) ?_
                    have h8 := hlan r (by omega) (by omega)
                    rw [h8.1] at eca
                    have hz : ∀ z, ν53 z = jm_uc (jm_uc (jm_uc (jm_uc μ 2 (jm_u1 (μ 2) (40 * r + a) (if μ 97 r = 0 then Int.bmod y 256 else if μ 97 r = 1 then Int.bmod y 65536 else y))) 0 (jm_u1 (μ 0) 11 0)) 99 (jm_u1 (μ 99) (40 * r + a) (if μ 97 r = 0 then Int.bmod y 256 else if μ 97 r = 1 then Int.bmod y 65536 else y))) 94 (jm_u1 (μ 94) 10 0) z := by
                      intro z
                      rw [eν53, eν43, f97r, ecb, eca]
                      rfl
                    refine ⟨jv_one ?_, jI_rowsC hI ⟨fun j j0 j1 => ?_, fun q q0 q1 => ?_⟩ (fun z a1 b c d d2 d3 d4 d5 => by rw [hz, jm_off1 d2, jm_off1 d5, jm_off1 a1, jm_off1 b]) ?_ ?_ ?_ ?_ ?_ ?_⟩
                    · rw [eν43, f97r, h8.1, jm_uc_self]
                      unfold jm_u1
                      rw [if_pos rfl]
                    · rw [hz, hz]
                      show jm_u1 (μ 2) (40 * r + a) (if μ 97 r = 0 then Int.bmod y 256 else if μ 97 r = 1 then Int.bmod y 65536 else y) j = jm_u1 (μ 99) (40 * r + a) (if μ 97 r = 0 then Int.bmod y 256 else if μ 97 r = 1 then Int.bmod y 65536 else y) j
                      unfold jm_u1
                      rw [hit j j0 j1]
                    · rw [hz, hz, hz, hz]
                      exact hlan q q0 q1
                    · rw [hz]; rfl
                    · rw [hz]; rfl
                    · rw [hz]; rfl
                    · rw [hz]; rfl
                    · rw [hz, hz]; rfl
                    · rw [hz, hz]
                      exact hfa
                · first
                  | (exfalso; omega)
                  | skip
                    show jV _ _ jm_p_X10_set _ 25 [some (.inr (.inr 94)), some (.inl r), some (.inl a), some (.inl y)] [.inl 0] μ32
                    refine jv_if_neF rfl rfl (by decide) ?_
                    refine jv_aload_n rfl rfl rfl (by decide) ?_
                    refine jv_iconst rfl rfl ?_
                    refine jv_callV1 rfl rfl rfl rfl ⟨by decide, rfl⟩ (Nat.le_of_ble_eq_true rfl) (mo_find (by omega) (fun ν28 eν28 => ?_))
                    show jV _ _ jm_p_X10_set _ 29 [some (.inr (.inr 94)), some (.inl r), some (.inl a), some (.inl y)] [.inl (-1000010 - 2)] ν28
                    refine jv_ireturn rfl (Or.inl rfl) ?_
                    exact ⟨jv_one (by omega), by exfalso; omega⟩
            · first
              | (exfalso; omega)
              | skip
                refine jv_aload_n rfl rfl rfl (by decide) ?_
                refine jv_iconst rfl rfl ?_
                refine jv_callV1 rfl rfl rfl rfl ⟨by decide, rfl⟩ (Nat.le_of_ble_eq_true rfl) (mo_find (by omega) (fun ν12 eν12 => ?_))
                show jV _ _ jm_p_X10_set _ 13 [some (.inr (.inr 94)), some (.inl r), some (.inl a), some (.inl y)] [.inl (-1000010 - 1)] ν12
                refine jv_ireturn rfl (Or.inl rfl) ?_
                exact ⟨jv_one (by omega), by exfalso; omega⟩
        · first
          | (exfalso; omega)
          | skip
            show jV _ _ jm_p_X10_set _ 2 [some (.inr (.inr 94)), some (.inl r), some (.inl a), some (.inl y)] [.inl 0] μ32
            refine jv_if_neF rfl rfl (by decide) ?_
            refine jv_ldc rfl rfl ?_
            refine jv_ireturn rfl (Or.inl rfl) ?_
            exact ⟨jv_one (by omega), by exfalso; omega⟩
      · show jV _ _ jm_p_X9_set _ 20 [some (.inr (.inr 0)), some (.inl r), some (.inl a), some (.inl y)] [.inl 0] μ
        refine jv_if_neF rfl rfl (by decide) ?_
        refine jv_aload_n rfl rfl rfl (by decide) ?_
        refine jv_iconst rfl rfl ?_
        refine jv_callV1 rfl rfl rfl rfl ⟨by decide, rfl⟩ (Nat.le_of_ble_eq_true rfl) (cl_found (by omega) (fun μ23 eμ23 => ?_))
        show jV _ _ jm_p_X9_set _ 24 [some (.inr (.inr 0)), some (.inl r), some (.inl a), some (.inl y)] [.inl (-1000010 - 2)] μ23
        refine jv_ireturn rfl (Or.inl rfl) ?_
        refine ⟨_, rfl, ?_⟩
        have f97r : μ23 97 r = μ 97 r := by rw [eμ23]; rfl
        have f98r : μ23 98 r = μ 98 r := by rw [eμ23]; rfl
        refine jv_enter (d := 199) jm_p_X10_set [some (.inr (.inr 94)), some (.inl r), some (.inl a), some (.inl y)] rfl rfl rfl (Nat.le_of_ble_eq_true rfl) rfl rfl ?_
        refine jv_iload_n rfl rfl rfl ?_
        refine jv_callS1 rfl rfl rfl (Nat.le_of_ble_eq_true rfl) (mo_isRow (fun b1 => ?_) (fun b1 => ?_))
        · first
          | (exfalso; omega)
          | skip
            show jV _ _ jm_p_X10_set _ 2 [some (.inr (.inr 94)), some (.inl r), some (.inl a), some (.inl y)] [.inl 1] μ23
            refine jv_if_neT rfl rfl (by decide) ?_
            refine jv_aload_n rfl rfl rfl (by decide) ?_
            refine jv_getr (w := 98) rfl rfl rfl ⟨by decide, rfl⟩ rfl rfl ?_
            refine jv_iload_n rfl rfl rfl ?_
            refine jv_iaload rfl rfl (by decide) rfl ⟨by omega, by omega⟩ ?_
            refine jv_if_ge rfl rfl rfl (fun c9 => ?_) (fun c9 => ?_)
            · first
              | (exfalso; omega)
              | skip
                refine jv_iload_n rfl rfl rfl ?_
                refine jv_i2l rfl rfl ?_
                refine jv_lconst rfl rfl ?_
                refine jv_aload_n rfl rfl rfl (by decide) ?_
                refine jv_getr (w := 98) rfl rfl rfl ⟨by decide, rfl⟩ rfl rfl ?_
                refine jv_iload_n rfl rfl rfl ?_
                refine jv_iaload rfl rfl (by decide) rfl ⟨by omega, by omega⟩ ?_
                refine jv_iconst rfl rfl ?_
                refine jv_isub rfl rfl ⟨by omega, by omega⟩ ?_
                refine jv_i2l rfl rfl ?_
                refine jv_callS3 rfl rfl rfl (Nat.le_of_ble_eq_true rfl) (mo_in (fun b24 => ?_) (fun b24 => ?_))
                · first
                  | (exfalso; omega)
                  | skip
                    show jV _ _ jm_p_X10_set _ 25 [some (.inr (.inr 94)), some (.inl r), some (.inl a), some (.inl y)] [.inl 1] μ23
                    refine jv_if_neT rfl rfl (by decide) ?_
                    refine jv_aload_n rfl rfl rfl (by decide) ?_
                    refine jv_getr (w := 99) rfl rfl rfl ⟨by decide, rfl⟩ rfl rfl ?_
                    refine jv_bipush rfl rfl ?_
                    refine jv_iload_n rfl rfl rfl ?_
                    refine jv_imul rfl rfl ⟨by omega, by omega⟩ ?_
                    refine jv_iload_n rfl rfl rfl ?_
                    refine jv_iadd rfl rfl ⟨by omega, by omega⟩ ?_
                    refine jv_iload_n rfl rfl rfl ?_
                    refine jv_aload_n rfl rfl rfl (by decide) ?_
                    refine jv_getr (w := 97) rfl rfl rfl ⟨by decide, rfl⟩ rfl rfl ?_
                    refine jv_iload_n rfl rfl rfl ?_
                    refine jv_iaload rfl rfl (by decide) rfl ⟨by omega, by omega⟩ ?_
                    refine jv_callS2 rfl rfl rfl (Nat.le_of_ble_eq_true rfl) (mo_narrow ?_)
                    show jV _ _ jm_p_X10_set _ 43 [some (.inr (.inr 94)), some (.inl r), some (.inl a), some (.inl y)] [.inl (if (μ23 97 r) = 0 then Int.bmod y 256 else if (μ23 97 r) = 1 then Int.bmod y 65536 else y), .inl ((40 * r) + a), .inr (.inr 99)] μ23
                    refine jv_iastore rfl rfl rfl (by decide) ⟨by omega, by omega⟩ (fun ν43 eν43 => ?_)
                    refine jv_aload_n rfl rfl rfl (by decide) ?_
                    refine jv_aload_n rfl rfl rfl (by decide) ?_
                    refine jv_getr (w := 99) rfl rfl rfl ⟨by decide, rfl⟩ rfl rfl ?_
                    refine jv_bipush rfl rfl ?_
                    refine jv_iload_n rfl rfl rfl ?_
                    refine jv_imul rfl rfl ⟨by omega, by omega⟩ ?_
                    refine jv_iload_n rfl rfl rfl ?_
                    refine jv_iadd rfl rfl ⟨by omega, by omega⟩ ?_
                    refine jv_iaload rfl rfl (by decide) rfl ⟨by omega, by omega⟩ ?_
                    refine jv_callV1 rfl rfl rfl rfl ⟨by decide, rfl⟩ (Nat.le_of_ble_eq_true rfl) (mo_well (fun ν53 eν53 => ?_))
                    show jV _ _ jm_p_X10_set _ 54 [some (.inr (.inr 94)), some (.inl r), some (.inl a), some (.inl y)] [.inl (ν43 99 ((40 * r) + a))] ν53
                    refine jv_ireturn rfl (Or.inl rfl) ?_
                    exact ⟨jv_one (by omega), by exfalso; omega⟩
                · first
                  | (exfalso; omega)
                  | skip
                    show jV _ _ jm_p_X10_set _ 25 [some (.inr (.inr 94)), some (.inl r), some (.inl a), some (.inl y)] [.inl 0] μ23
                    refine jv_if_neF rfl rfl (by decide) ?_
                    refine jv_aload_n rfl rfl rfl (by decide) ?_
                    refine jv_iconst rfl rfl ?_
                    refine jv_callV1 rfl rfl rfl rfl ⟨by decide, rfl⟩ (Nat.le_of_ble_eq_true rfl) (mo_find (by omega) (fun ν28 eν28 => ?_))
                    show jV _ _ jm_p_X10_set _ 29 [some (.inr (.inr 94)), some (.inl r), some (.inl a), some (.inl y)] [.inl (-1000010 - 2)] ν28
                    refine jv_ireturn rfl (Or.inl rfl) ?_
                    exact ⟨jv_one (by omega), jI_find hI eμ23 eν28⟩
            · first
              | (exfalso; omega)
              | skip
                refine jv_aload_n rfl rfl rfl (by decide) ?_
                refine jv_iconst rfl rfl ?_
                refine jv_callV1 rfl rfl rfl rfl ⟨by decide, rfl⟩ (Nat.le_of_ble_eq_true rfl) (mo_find (by omega) (fun ν12 eν12 => ?_))
                show jV _ _ jm_p_X10_set _ 13 [some (.inr (.inr 94)), some (.inl r), some (.inl a), some (.inl y)] [.inl (-1000010 - 1)] ν12
                refine jv_ireturn rfl (Or.inl rfl) ?_
                exact ⟨jv_one (by omega), jI_find hI eμ23 eν12⟩
        · first
          | (exfalso; omega)
          | skip
            show jV _ _ jm_p_X10_set _ 2 [some (.inr (.inr 94)), some (.inl r), some (.inl a), some (.inl y)] [.inl 0] μ23
            refine jv_if_neF rfl rfl (by decide) ?_
            refine jv_ldc rfl rfl ?_
            refine jv_ireturn rfl (Or.inl rfl) ?_
            exact ⟨jv_one (by omega), by exfalso; omega⟩
set_option maxRecDepth 10000 in
set_option maxHeartbeats 1000000 in
theorem pr_drop {X : jm_X} {r : Int} (r_r : jm_r r) : jp X 91 146 [.inl r] := by
  intro μ hI
  obtain ⟨⟨hit, hlan⟩, ⟨ht0, ht1, ht2⟩, ⟨hr0, hr1, hr2⟩, ⟨hst, hfa⟩, htown, hidle, himg, hpast⟩ := id hI
  obtain ⟨hwf, hcf, hkd, hmat, hrel, hh01, hhot, hnc⟩ := id htown
  obtain ⟨⟨r0, r1, r2, r3⟩, rm, rz, rc⟩ := id hrel
  obtain ⟨w0, w1, w2, w3, w4, w6, w7, w8⟩ := id hwf
  have hl := hlan r
  refine jv_enter (d := 199) jm_p_X9_drop [some (.inr (.inr 0)), some (.inl r)] rfl rfl rfl (Nat.le_of_ble_eq_true rfl) rfl rfl ?_
  refine jv_iload_n rfl rfl rfl ?_
  refine jv_callS1 rfl rfl rfl (Nat.le_of_ble_eq_true rfl) (cl_noRow (fun b1 => ?_) (fun b1 => ?_))
  · show jV _ _ jm_p_X9_drop _ 2 [some (.inr (.inr 0)), some (.inl r)] [.inl 1] μ
    refine jv_if_eqF rfl rfl (by decide) ?_
    refine jv_ldc rfl rfl ?_
    refine jv_ireturn rfl (Or.inl rfl) ?_
    refine ⟨_, rfl, ?_⟩
    skip
    refine jv_enter (d := 199) jm_p_X10_drop [some (.inr (.inr 94)), some (.inl r), none] rfl rfl rfl (Nat.le_of_ble_eq_true rfl) rfl rfl ?_
    refine jv_iload_n rfl rfl rfl ?_
    refine jv_callS1 rfl rfl rfl (Nat.le_of_ble_eq_true rfl) (mo_isRow (fun b1 => ?_) (fun b1 => ?_))
    · first
      | (exfalso; omega)
      | skip
        show jV _ _ jm_p_X10_drop _ 2 [some (.inr (.inr 94)), some (.inl r), none] [.inl 1] μ
        refine jv_if_neT rfl rfl (by decide) ?_
        refine jv_aload_n rfl rfl rfl (by decide) ?_
        refine jv_getr (w := 98) rfl rfl rfl ⟨by decide, rfl⟩ rfl rfl ?_
        refine jv_iload_n rfl rfl rfl ?_
        refine jv_iaload rfl rfl (by decide) rfl ⟨by omega, by omega⟩ ?_
        refine jv_if_ge rfl rfl rfl (fun c9 => ?_) (fun c9 => ?_)
        · first
          | (exfalso; omega)
          | skip
            refine jv_aload_n rfl rfl rfl (by decide) ?_
            refine jv_getr (w := 98) rfl rfl rfl ⟨by decide, rfl⟩ rfl rfl ?_
            refine jv_iload_n rfl rfl rfl ?_
            refine jv_iaload rfl rfl (by decide) rfl ⟨by omega, by omega⟩ ?_
            refine jv_istore_n (fun x => [some (.inr (.inr 94)), some (.inl r), some (.inl x)]) rfl rfl (fun _ => rfl) (fun x2_18 ex2_18 => ?_)
            refine jv_aload_n rfl rfl rfl (by decide) ?_
            refine jv_getr (w := 98) rfl rfl rfl ⟨by decide, rfl⟩ rfl rfl ?_
            refine jv_iload_n rfl rfl rfl ?_
            refine jv_iconst rfl rfl ?_
            refine jv_iastore rfl rfl rfl (by decide) ⟨by omega, by omega⟩ (fun ν23 eν23 => ?_)
            refine jv_aload_n rfl rfl rfl (by decide) ?_
            refine jv_iload_n rfl rfl rfl ?_
            refine jv_callV1 rfl rfl rfl rfl ⟨by decide, rfl⟩ (Nat.le_of_ble_eq_true rfl) (mo_well (fun ν26 eν26 => ?_))
            show jV _ _ jm_p_X10_drop _ 27 [some (.inr (.inr 94)), some (.inl r), some (.inl x2_18)] [.inl x2_18] ν26
            refine jv_ireturn rfl (Or.inl rfl) ?_
            exact ⟨jv_one (by omega), by exfalso; omega⟩
        · first
          | (exfalso; omega)
          | skip
            refine jv_aload_n rfl rfl rfl (by decide) ?_
            refine jv_iconst rfl rfl ?_
            refine jv_callV1 rfl rfl rfl rfl ⟨by decide, rfl⟩ (Nat.le_of_ble_eq_true rfl) (mo_find (by omega) (fun ν12 eν12 => ?_))
            show jV _ _ jm_p_X10_drop _ 13 [some (.inr (.inr 94)), some (.inl r), none] [.inl (-1000010 - 1)] ν12
            refine jv_ireturn rfl (Or.inl rfl) ?_
            exact ⟨jv_one (by omega), by exfalso; omega⟩
    · first
      | (exfalso; omega)
      | skip
        show jV _ _ jm_p_X10_drop _ 2 [some (.inr (.inr 94)), some (.inl r), none] [.inl 0] μ
        refine jv_if_neF rfl rfl (by decide) ?_
        refine jv_ldc rfl rfl ?_
        refine jv_ireturn rfl (Or.inl rfl) ?_
        exact ⟨jv_one (by omega), hI⟩
  · show jV _ _ jm_p_X9_drop _ 2 [some (.inr (.inr 0)), some (.inl r)] [.inl 0] μ
    refine jv_if_eqT rfl rfl (by decide) ?_
    refine jv_aload_n rfl rfl rfl (by decide) ?_
    refine jv_getr (w := 1) rfl rfl rfl ⟨by decide, rfl⟩ rfl rfl ?_
    refine jv_iload_n rfl rfl rfl ?_
    refine jv_callV1 rfl rfl rfl rfl ⟨by decide, rfl⟩ (Nat.le_of_ble_eq_true rfl) (cl_isMissing (by omega) (fun b8 => ?_) (fun b8 => ?_))
    · show jV _ _ jm_p_X9_drop _ 9 [some (.inr (.inr 0)), some (.inl r)] [.inl 1] μ
      refine jv_if_eqF rfl rfl (by decide) ?_
      refine jv_aload_n rfl rfl rfl (by decide) ?_
      refine jv_iconst rfl rfl ?_
      refine jv_callV1 rfl rfl rfl rfl ⟨by decide, rfl⟩ (Nat.le_of_ble_eq_true rfl) (cl_found (by omega) (fun μ12 eμ12 => ?_))
      show jV _ _ jm_p_X9_drop _ 13 [some (.inr (.inr 0)), some (.inl r)] [.inl (-1000010 - 1)] μ12
      refine jv_ireturn rfl (Or.inl rfl) ?_
      refine ⟨_, rfl, ?_⟩
      have f97r : μ12 97 r = μ 97 r := by rw [eμ12]; rfl
      have f98r : μ12 98 r = μ 98 r := by rw [eμ12]; rfl
      refine jv_enter (d := 199) jm_p_X10_drop [some (.inr (.inr 94)), some (.inl r), none] rfl rfl rfl (Nat.le_of_ble_eq_true rfl) rfl rfl ?_
      refine jv_iload_n rfl rfl rfl ?_
      refine jv_callS1 rfl rfl rfl (Nat.le_of_ble_eq_true rfl) (mo_isRow (fun b1 => ?_) (fun b1 => ?_))
      · first
        | (exfalso; omega)
        | skip
          show jV _ _ jm_p_X10_drop _ 2 [some (.inr (.inr 94)), some (.inl r), none] [.inl 1] μ12
          refine jv_if_neT rfl rfl (by decide) ?_
          refine jv_aload_n rfl rfl rfl (by decide) ?_
          refine jv_getr (w := 98) rfl rfl rfl ⟨by decide, rfl⟩ rfl rfl ?_
          refine jv_iload_n rfl rfl rfl ?_
          refine jv_iaload rfl rfl (by decide) rfl ⟨by omega, by omega⟩ ?_
          refine jv_if_ge rfl rfl rfl (fun c9 => ?_) (fun c9 => ?_)
          · first
            | (exfalso; omega)
            | skip
              refine jv_aload_n rfl rfl rfl (by decide) ?_
              refine jv_getr (w := 98) rfl rfl rfl ⟨by decide, rfl⟩ rfl rfl ?_
              refine jv_iload_n rfl rfl rfl ?_
              refine jv_iaload rfl rfl (by decide) rfl ⟨by omega, by omega⟩ ?_
              refine jv_istore_n (fun x => [some (.inr (.inr 94)), some (.inl r), some (.inl x)]) rfl rfl (fun _ => rfl) (fun x2_18 ex2_18 => ?_)
              refine jv_aload_n rfl rfl rfl (by decide) ?_
              refine jv_getr (w := 98) rfl rfl rfl ⟨by decide, rfl⟩ rfl rfl ?_
              refine jv_iload_n rfl rfl rfl ?_
              refine jv_iconst rfl rfl ?_
              refine jv_iastore rfl rfl rfl (by decide) ⟨by omega, by omega⟩ (fun ν23 eν23 => ?_)
              refine jv_aload_n rfl rfl rfl (by decide) ?_
              refine jv_iload_n rfl rfl rfl ?_
              refine jv_callV1 rfl rfl rfl rfl ⟨by decide, rfl⟩ (Nat.le_of_ble_eq_true rfl) (mo_well (fun ν26 eν26 => ?_))
              show jV _ _ jm_p_X10_drop _ 27 [some (.inr (.inr 94)), some (.inl r), some (.inl x2_18)] [.inl x2_18] ν26
              refine jv_ireturn rfl (Or.inl rfl) ?_
              exact ⟨jv_one (by omega), by exfalso; omega⟩
          · first
            | (exfalso; omega)
            | skip
              refine jv_aload_n rfl rfl rfl (by decide) ?_
              refine jv_iconst rfl rfl ?_
              refine jv_callV1 rfl rfl rfl rfl ⟨by decide, rfl⟩ (Nat.le_of_ble_eq_true rfl) (mo_find (by omega) (fun ν12 eν12 => ?_))
              show jV _ _ jm_p_X10_drop _ 13 [some (.inr (.inr 94)), some (.inl r), none] [.inl (-1000010 - 1)] ν12
              refine jv_ireturn rfl (Or.inl rfl) ?_
              exact ⟨jv_one (by omega), jI_find hI eμ12 eν12⟩
      · first
        | (exfalso; omega)
        | skip
          show jV _ _ jm_p_X10_drop _ 2 [some (.inr (.inr 94)), some (.inl r), none] [.inl 0] μ12
          refine jv_if_neF rfl rfl (by decide) ?_
          refine jv_ldc rfl rfl ?_
          refine jv_ireturn rfl (Or.inl rfl) ?_
          exact ⟨jv_one (by omega), by exfalso; omega⟩
    · show jV _ _ jm_p_X9_drop _ 9 [some (.inr (.inr 0)), some (.inl r)] [.inl 0] μ
      refine jv_if_eqT rfl rfl (by decide) ?_
      refine jv_aload_n rfl rfl rfl (by decide) ?_
      refine jv_aload_n rfl rfl rfl (by decide) ?_
      refine jv_getr (w := 1) rfl rfl rfl ⟨by decide, rfl⟩ rfl rfl ?_
      refine jv_iload_n rfl rfl rfl ?_
      refine jv_callV1 rfl rfl rfl rfl ⟨by decide, rfl⟩ (Nat.le_of_ble_eq_true rfl) (cl_remove (by omega) (fun μ18 eμ18 => ?_))
      show jV _ _ jm_p_X9_drop _ 19 [some (.inr (.inr 0)), some (.inl r)] [.inl (μ 4 r), .inr (.inr 0)] μ18
      refine jv_callV1 rfl rfl rfl rfl ⟨by decide, rfl⟩ (Nat.le_of_ble_eq_true rfl) (cl_unfound (fun μ19 eμ19 => ?_))
      show jV _ _ jm_p_X9_drop _ 20 [some (.inr (.inr 0)), some (.inl r)] [.inl (μ 4 r)] μ19
      refine jv_ireturn rfl (Or.inl rfl) ?_
      refine ⟨_, rfl, ?_⟩
      have f97r : μ19 97 r = μ 97 r := by rw [eμ19, eμ18]; rfl
      have f98r : μ19 98 r = μ 98 r := by rw [eμ19, eμ18]; rfl
      have eca := eμ18
      have ecb := eμ19
      refine jv_enter (d := 199) jm_p_X10_drop [some (.inr (.inr 94)), some (.inl r), none] rfl rfl rfl (Nat.le_of_ble_eq_true rfl) rfl rfl ?_
      refine jv_iload_n rfl rfl rfl ?_
      refine jv_callS1 rfl rfl rfl (Nat.le_of_ble_eq_true rfl) (mo_isRow (fun b1 => ?_) (fun b1 => ?_))
      · first
        | (exfalso; omega)
        | skip
          show jV _ _ jm_p_X10_drop _ 2 [some (.inr (.inr 94)), some (.inl r), none] [.inl 1] μ19
          refine jv_if_neT rfl rfl (by decide) ?_
          refine jv_aload_n rfl rfl rfl (by decide) ?_
          refine jv_getr (w := 98) rfl rfl rfl ⟨by decide, rfl⟩ rfl rfl ?_
          refine jv_iload_n rfl rfl rfl ?_
          refine jv_iaload rfl rfl (by decide) rfl ⟨by omega, by omega⟩ ?_
          refine jv_if_ge rfl rfl rfl (fun c9 => ?_) (fun c9 => ?_)
          · first
            | (exfalso; omega)
            | skip
              refine jv_aload_n rfl rfl rfl (by decide) ?_
              refine jv_getr (w := 98) rfl rfl rfl ⟨by decide, rfl⟩ rfl rfl ?_
              refine jv_iload_n rfl rfl rfl ?_
              refine jv_iaload rfl rfl (by decide) rfl ⟨by omega, by omega⟩ ?_
              refine jv_istore_n (fun x => [some (.inr (.inr 94)), some (.inl r), some (.inl x)]) rfl rfl (fun _ => rfl) (fun x2_18 ex2_18 => ?_)
              refine jv_aload_n rfl rfl rfl (by decide) ?_
              refine jv_getr (w := 98) rfl rfl rfl ⟨by decide, rfl⟩ rfl rfl ?_
              refine jv_iload_n rfl rfl rfl ?_
              refine jv_iconst rfl rfl ?_
              refine jv_iastore rfl rfl rfl (by decide) ⟨by omega, by omega⟩ (fun ν23 eν23 => ?_)
              refine jv_aload_n rfl rfl rfl (by decide) ?_
              refine jv_iload_n rfl rfl rfl ?_
              refine jv_callV1 rfl rfl rfl rfl ⟨by decide, rfl⟩ (Nat.le_of_ble_eq_true rfl) (mo_well (fun ν26 eν26 => ?_))
              show jV _ _ jm_p_X10_drop _ 27 [some (.inr (.inr 94)), some (.inl r), some (.inl x2_18)] [.inl x2_18] ν26
              refine jv_ireturn rfl (Or.inl rfl) ?_
              have h8 := hlan r (by omega) (by omega)
              have hz : ∀ z, ν26 z = jm_uc (jm_uc (jm_uc (jm_uc μ 4 (jm_u1 (μ 4) r (-1))) 0 (jm_u1 (μ 0) 11 0)) 98 (jm_u1 (μ 98) r (-1))) 94 (jm_u1 (μ 94) 10 0) z := by
                intro z
                rw [eν26, eν23, ecb, eca]
                rfl
              refine ⟨jv_one (by omega), jI_rowsC hI ⟨fun j j0 j1 => ?_, fun q q0 q1 => ?_⟩ (fun z a1 b c d d2 d3 d4 d5 => by rw [hz, jm_off1 d2, jm_off1 d4, jm_off1 a1, jm_off1 d]) ?_ ?_ ?_ ?_ ?_ ?_⟩
              · rw [hz, hz]
                exact hit j j0 j1
              · rw [hz, hz, hz, hz]
                show μ 3 q = μ 97 q ∧ jm_u1 (μ 4) r (-1) q = jm_u1 (μ 98) r (-1) q ∧ (-1 ≤ jm_u1 (μ 98) r (-1) q ∧ jm_u1 (μ 98) r (-1) q ≤ 40) ∧ (0 ≤ μ 97 q ∧ μ 97 q ≤ 2)
                have := hlan q q0 q1
                unfold jm_u1
                split <;> omega
              · rw [hz]; rfl
              · rw [hz]; rfl
              · rw [hz]; rfl
              · rw [hz]; rfl
              · rw [hz, hz]; rfl
              · rw [hz, hz]
                exact hfa
          · first
            | (exfalso; omega)
            | skip
              refine jv_aload_n rfl rfl rfl (by decide) ?_
              refine jv_iconst rfl rfl ?_
              refine jv_callV1 rfl rfl rfl rfl ⟨by decide, rfl⟩ (Nat.le_of_ble_eq_true rfl) (mo_find (by omega) (fun ν12 eν12 => ?_))
              show jV _ _ jm_p_X10_drop _ 13 [some (.inr (.inr 94)), some (.inl r), none] [.inl (-1000010 - 1)] ν12
              refine jv_ireturn rfl (Or.inl rfl) ?_
              exact ⟨jv_one (by omega), by exfalso; omega⟩
      · first
        | (exfalso; omega)
        | skip
          show jV _ _ jm_p_X10_drop _ 2 [some (.inr (.inr 94)), some (.inl r), none] [.inl 0] μ19
          refine jv_if_neF rfl rfl (by decide) ?_
          refine jv_ldc rfl rfl ?_
          refine jv_ireturn rfl (Or.inl rfl) ?_
          exact ⟨jv_one (by omega), by exfalso; omega⟩
