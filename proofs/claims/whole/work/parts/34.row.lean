def jz_zero (f : Int → Int) (a n : Int) : Int → Int := fun j => if a ≤ j ∧ j < a + n then 0 else f j
theorem jI_find {μ μa μb : jm_M} {w : Int} (h : jI μ) (ea : μa = jm_uc μ 0 (jm_u1 (μ 0) 11 w)) (eb : μb = jm_uc μa 94 (jm_u1 (μa 94) 10 w)) : jI μb := by
  refine jI_same h (fun z z0 z1 => by rw [eb, jm_off1 z1, ea, jm_off1 z0]) ?_ ?_ ?_ ?_ ?_ ?_
  · rw [eb, ea]; rfl
  · rw [eb, ea]; rfl
  · rw [eb, ea]; rfl
  · rw [eb, ea]; rfl
  · rw [eb, ea]; rfl
  · have e1 : μb 0 10 = μ 0 10 := by rw [eb, ea]; rfl
    have e2 : μb 94 9 = μ 94 9 := by rw [eb, ea]; rfl
    rw [e1, e2]
    exact h.2.2.2.1.2
set_option maxRecDepth 10000 in
theorem cl_make_l {X : jm_X} {d : Nat} {Q : jv_P} {r ln n : Int} {μ0 : jm_M} (hr : 0 ≤ r ∧ r < 8) (k : Q [] (jm_uc μ0 2 (jz_zero (μ0 2) (40 * r) 40))) : ∀ (c : Nat) (x : Int) (μ : jm_M), 0 ≤ x → x ≤ 40 → 40 - x < c → μ = jm_uc μ0 2 (jz_zero (μ0 2) (40 * r) x) → jV X (d + 1) jm_p_X7_make Q 12 [some (.inr (.inr 1)), some (.inl r), some (.inl ln), some (.inl n), some (.inl x)] [] μ := by
  intro c
  induction c with
  | zero => intro x μ x0 x1 xn hμ; exfalso; omega
  | succ c ih =>
    intro x μ x0 x1 xn hμ
    refine jv_iload rfl rfl rfl ?_
    refine jv_bipush rfl rfl ?_
    refine jv_icmp_ge rfl rfl rfl (fun c14 => ?_) (fun c14 => ?_)
    · refine jv_return rfl ?_
      have hx : x = 40 := by omega
      subst hx hμ
      exact k
    · refine jv_aload_n rfl rfl rfl (by decide) ?_
      refine jv_getr (w := 2) rfl rfl rfl ⟨by decide, rfl⟩ rfl rfl ?_
      refine jv_iload_n rfl rfl rfl ?_
      refine jv_bipush rfl rfl ?_
      refine jv_imul rfl rfl ⟨by omega, by omega⟩ ?_
      refine jv_iload rfl rfl rfl ?_
      refine jv_iadd rfl rfl ⟨by omega, by omega⟩ ?_
      refine jv_iconst rfl rfl ?_
      refine jv_iastore rfl rfl rfl (by decide) ⟨by omega, by omega⟩ (fun μ23 eμ23 => ?_)
      refine jv_iinc (fun x => [some (.inr (.inr 1)), some (.inl r), some (.inl ln), some (.inl n), some (.inl x)]) rfl rfl rfl ⟨by omega, by omega⟩ (fun _ => rfl) (fun x4_24 ex4_24 => ?_)
      refine jv_goto rfl rfl ?_
      refine ih x4_24 μ23 (by omega) (by omega) (by omega) ?_
      rw [eμ23, hμ, jm_uc2, ex4_24]
      congr 1
      funext j
      simp only [jm_u1, jm_uc_self, jz_zero]
      by_cases hj : j = r * 40 + x
      · rw [if_pos hj, if_pos (by omega)]
      · rw [if_neg hj]
        by_cases hr2 : 40 * r ≤ j ∧ j < 40 * r + x
        · rw [if_pos hr2, if_pos (by omega)]
        · rw [if_neg hr2, if_neg (by omega)]
set_option maxRecDepth 10000 in
theorem cl_make {X : jm_X} {d : Nat} {Q : jv_P} {μ : jm_M} {r ln n : Int} (hr : 0 ≤ r ∧ r < 8) (k : ∀ μ2, μ2 = jm_uc (jm_uc (jm_uc μ 3 (jm_u1 (μ 3) r ln)) 4 (jm_u1 (μ 4) r n)) 2 (jz_zero (μ 2) (40 * r) 40) → Q [] μ2) : cV X (d + 2) 77 [.inr (.inr 1), .inl r, .inl ln, .inl n] μ Q := by
  refine jv_enter (d := d + 1) jm_p_X7_make [some (.inr (.inr 1)), some (.inl r), some (.inl ln), some (.inl n), none] rfl rfl rfl (Nat.le_of_ble_eq_true rfl) rfl rfl ?_
  refine jv_aload_n rfl rfl rfl (by decide) ?_
  refine jv_getr (w := 3) rfl rfl rfl ⟨by decide, rfl⟩ rfl rfl ?_
  refine jv_iload_n rfl rfl rfl ?_
  refine jv_iload_n rfl rfl rfl ?_
  refine jv_iastore rfl rfl rfl (by decide) ⟨by omega, by omega⟩ (fun μ4 eμ4 => ?_)
  refine jv_aload_n rfl rfl rfl (by decide) ?_
  refine jv_getr (w := 4) rfl rfl rfl ⟨by decide, rfl⟩ rfl rfl ?_
  refine jv_iload_n rfl rfl rfl ?_
  refine jv_iload_n rfl rfl rfl ?_
  refine jv_iastore rfl rfl rfl (by decide) ⟨by omega, by omega⟩ (fun μ9 eμ9 => ?_)
  refine jv_iconst rfl rfl ?_
  refine jv_istoreK (L2 := [some (.inr (.inr 1)), some (.inl r), some (.inl ln), some (.inl n), some (.inl 0)]) rfl rfl rfl ?_
  refine cl_make_l hr (μ0 := μ9) (k _ ?_) 41 0 μ9 (by omega) (by omega) (by omega) ?_
  · rw [eμ9, eμ4]; rfl
  · have e : jz_zero (μ9 2) (40 * r) 0 = μ9 2 := by
      funext j
      unfold jz_zero
      rw [if_neg (by omega)]
    rw [e, jm_uc_id]
set_option maxRecDepth 10000 in
theorem mo_row_l {X : jm_X} {d : Nat} {Q : jv_P} {r ln n : Int} {μ0 : jm_M} (hr : 0 ≤ r ∧ r < 8) (k : ∀ μ2, μ2 = jm_uc (jm_uc μ0 99 (jz_zero (μ0 99) (40 * r) 40)) 94 (jm_u1 (μ0 94) 10 0) → Q [.inl n] μ2) : ∀ (c : Nat) (x : Int) (μ : jm_M), 0 ≤ x → x ≤ 40 → 40 - x < c → μ = jm_uc μ0 99 (jz_zero (μ0 99) (40 * r) x) → jV X (d + 1) jm_p_X10_row Q 32 [some (.inr (.inr 94)), some (.inl r), some (.inl ln), some (.inl n), some (.inl x)] [] μ := by
  intro c
  induction c with
  | zero => intro x μ x0 x1 xn hμ; exfalso; omega
  | succ c ih =>
    intro x μ x0 x1 xn hμ
    refine jv_iload rfl rfl rfl ?_
    refine jv_bipush rfl rfl ?_
    refine jv_icmp_ge rfl rfl rfl (fun c34 => ?_) (fun c34 => ?_)
    · refine jv_aload_n rfl rfl rfl (by decide) ?_
      refine jv_iload_n rfl rfl rfl ?_
      refine jv_callV1 rfl rfl rfl rfl ⟨by decide, rfl⟩ (Nat.le_of_ble_eq_true rfl) (mo_well (fun μ48 eμ48 => ?_))
      show jV _ _ jm_p_X10_row _ 49 [some (.inr (.inr 94)), some (.inl r), some (.inl ln), some (.inl n), some (.inl x)] [.inl n] μ48
      refine jv_ireturn rfl (Or.inl rfl) ?_
      have hx : x = 40 := by omega
      subst hx
      exact k _ (by rw [eμ48, hμ]; rfl)
    · refine jv_aload_n rfl rfl rfl (by decide) ?_
      refine jv_getr (w := 99) rfl rfl rfl ⟨by decide, rfl⟩ rfl rfl ?_
      refine jv_bipush rfl rfl ?_
      refine jv_iload_n rfl rfl rfl ?_
      refine jv_imul rfl rfl ⟨by omega, by omega⟩ ?_
      refine jv_iload rfl rfl rfl ?_
      refine jv_iadd rfl rfl ⟨by omega, by omega⟩ ?_
      refine jv_iconst rfl rfl ?_
      refine jv_iastore rfl rfl rfl (by decide) ⟨by omega, by omega⟩ (fun μ43 eμ43 => ?_)
      refine jv_iinc (fun x => [some (.inr (.inr 94)), some (.inl r), some (.inl ln), some (.inl n), some (.inl x)]) rfl rfl rfl ⟨by omega, by omega⟩ (fun _ => rfl) (fun x4_44 ex4_44 => ?_)
      refine jv_goto rfl rfl ?_
      refine ih x4_44 μ43 (by omega) (by omega) (by omega) ?_
      rw [eμ43, hμ, jm_uc2, ex4_44]
      congr 1
      funext j
      simp only [jm_u1, jm_uc_self, jz_zero]
      by_cases hj : j = 40 * r + x
      · rw [if_pos hj, if_pos (by omega)]
      · rw [if_neg hj]
        by_cases hr2 : 40 * r ≤ j ∧ j < 40 * r + x
        · rw [if_pos hr2, if_pos (by omega)]
        · rw [if_neg hr2, if_neg (by omega)]
set_option maxRecDepth 10000 in
set_option maxHeartbeats 1000000 in
theorem pr_row {X : jm_X} {r : Int} {ln : Int} {n : Int} (r_r : jm_r r) (r_ln : jm_r ln) (r_n : jm_r n) : jp X 88 141 [.inl r, .inl ln, .inl n] := by
  intro μ hI
  obtain ⟨⟨hit, hlan⟩, ⟨ht0, ht1, ht2⟩, ⟨hr0, hr1, hr2⟩, ⟨hst, hfa⟩, htown, hidle, himg, hpast⟩ := id hI
  obtain ⟨hwf, hcf, hkd, hmat, hrel, hh01, hhot, hnc⟩ := id htown
  obtain ⟨⟨r0, r1, r2, r3⟩, rm, rz, rc⟩ := id hrel
  obtain ⟨w0, w1, w2, w3, w4, w6, w7, w8⟩ := id hwf
  refine jv_enter (d := 199) jm_p_X9_row [some (.inr (.inr 0)), some (.inl r), some (.inl ln), some (.inl n)] rfl rfl rfl (Nat.le_of_ble_eq_true rfl) rfl rfl ?_
  refine jv_iload_n rfl rfl rfl ?_
  refine jv_callS1 rfl rfl rfl (Nat.le_of_ble_eq_true rfl) (cl_noRow (fun b1 => ?_) (fun b1 => ?_))
  · show jV _ _ jm_p_X9_row _ 2 [some (.inr (.inr 0)), some (.inl r), some (.inl ln), some (.inl n)] [.inl 1] μ
    refine jv_if_neT rfl rfl (by decide) ?_
    refine jv_ldc rfl rfl ?_
    refine jv_ireturn rfl (Or.inl rfl) ?_
    refine ⟨_, rfl, ?_⟩
    skip
    refine jv_enter (d := 199) jm_p_X10_row [some (.inr (.inr 94)), some (.inl r), some (.inl ln), some (.inl n), none] rfl rfl rfl (Nat.le_of_ble_eq_true rfl) rfl rfl ?_
    refine jv_iload_n rfl rfl rfl ?_
    refine jv_callS1 rfl rfl rfl (Nat.le_of_ble_eq_true rfl) (mo_isRow (fun b1 => ?_) (fun b1 => ?_))
    · first
      | (exfalso; omega)
      | skip
        show jV _ _ jm_p_X10_row _ 2 [some (.inr (.inr 94)), some (.inl r), some (.inl ln), some (.inl n), none] [.inl 1] μ
        refine jv_if_eqF rfl rfl (by decide) ?_
        refine jv_iload_n rfl rfl rfl ?_
        refine jv_i2l rfl rfl ?_
        refine jv_lconst rfl rfl ?_
        refine jv_ldc2_w rfl rfl ?_
        refine jv_callS3 rfl rfl rfl (Nat.le_of_ble_eq_true rfl) (mo_in (fun b7 => ?_) (fun b7 => ?_))
        · first
          | (exfalso; omega)
          | skip
            show jV _ _ jm_p_X10_row _ 8 [some (.inr (.inr 94)), some (.inl r), some (.inl ln), some (.inl n), none] [.inl 1] μ
            refine jv_if_eqF rfl rfl (by decide) ?_
            refine jv_iload_n rfl rfl rfl ?_
            refine jv_bipush rfl rfl ?_
            refine jv_icmp_le rfl rfl rfl (fun c11 => ?_) (fun c11 => ?_)
            · first
              | (exfalso; omega)
              | skip
                refine jv_iload_n rfl rfl rfl ?_
                refine jv_if_ge rfl rfl rfl (fun c15 => ?_) (fun c15 => ?_)
                · first
                  | (exfalso; omega)
                  | skip
                    refine jv_aload_n rfl rfl rfl (by decide) ?_
                    refine jv_getr (w := 97) rfl rfl rfl ⟨by decide, rfl⟩ rfl rfl ?_
                    refine jv_iload_n rfl rfl rfl ?_
                    refine jv_iload_n rfl rfl rfl ?_
                    refine jv_iastore rfl rfl rfl (by decide) ⟨by omega, by omega⟩ (fun ν24 eν24 => ?_)
                    refine jv_aload_n rfl rfl rfl (by decide) ?_
                    refine jv_getr (w := 98) rfl rfl rfl ⟨by decide, rfl⟩ rfl rfl ?_
                    refine jv_iload_n rfl rfl rfl ?_
                    refine jv_iload_n rfl rfl rfl ?_
                    refine jv_iastore rfl rfl rfl (by decide) ⟨by omega, by omega⟩ (fun ν29 eν29 => ?_)
                    refine jv_iconst rfl rfl ?_
                    refine jv_istoreK (L2 := [some (.inr (.inr 94)), some (.inl r), some (.inl ln), some (.inl n), some (.inl 0)]) rfl rfl rfl ?_
                    refine mo_row_l (by omega) (μ0 := ν29) (fun μz eμz => ?_) 41 0 ν29 (by omega) (by omega) (by omega) ?_
                    · have hz : ∀ z, μz z = jm_uc (jm_uc (jm_uc (jm_uc (jm_uc (jm_uc (jm_uc (jm_uc μ 3 (jm_u1 (μ 3) r ln)) 4 (jm_u1 (μ 4) r n)) 2 (jz_zero (μ 2) (40 * r) 40)) 0 (jm_u1 (μ 0) 11 0)) 97 (jm_u1 (μ 97) r ln)) 98 (jm_u1 (μ 98) r n)) 99 (jz_zero (μ 99) (40 * r) 40)) 94 (jm_u1 (μ 94) 10 0) z := by
                        intro z
                        rw [eμz, eν29, eν24, eμ27, eμ24c]
                        rfl
                      refine ⟨rfl, jI_rowsC hI ⟨fun j j0 j1 => ?_, fun q q0 q1 => ?_⟩ (fun z a b c d d2 d3 d4 d5 => by rw [hz, jm_off1 d2, jm_off1 d5, jm_off1 d4, jm_off1 d3, jm_off1 a, jm_off1 b, jm_off1 d, jm_off1 c]) ?_ ?_ ?_ ?_ ?_ ?_⟩
                      · rw [hz, hz]
                        show jz_zero (μ 2) (40 * r) 40 j = jz_zero (μ 99) (40 * r) 40 j
                        unfold jz_zero
                        rw [hit j j0 j1]
                      · rw [hz, hz, hz, hz]
                        show jm_u1 (μ 3) r ln q = jm_u1 (μ 97) r ln q ∧ jm_u1 (μ 4) r n q = jm_u1 (μ 98) r n q ∧ (-1 ≤ jm_u1 (μ 98) r n q ∧ jm_u1 (μ 98) r n q ≤ 40) ∧ (0 ≤ jm_u1 (μ 97) r ln q ∧ jm_u1 (μ 97) r ln q ≤ 2)
                        have := hlan q q0 q1
                        unfold jm_u1
                        split <;> omega
                      · rw [hz]; rfl
                      · rw [hz]; rfl
                      · rw [hz]; rfl
                      · rw [hz]; rfl
                      · rw [hz, hz]; rfl
                      · rw [hz, hz]
                        exact hfa
                    · have e : jz_zero (ν29 99) (40 * r) 0 = ν29 99 := by
                        funext j
                        unfold jz_zero
                        rw [if_neg (by omega)]
                      rw [e, jm_uc_id]
                · first
                  | (exfalso; omega)
                  | skip
                    refine jv_aload_n rfl rfl rfl (by decide) ?_
                    refine jv_iconst rfl rfl ?_
                    refine jv_callV1 rfl rfl rfl rfl ⟨by decide, rfl⟩ (Nat.le_of_ble_eq_true rfl) (mo_find (by omega) (fun ν18 eν18 => ?_))
                    show jV _ _ jm_p_X10_row _ 19 [some (.inr (.inr 94)), some (.inl r), some (.inl ln), some (.inl n), none] [.inl (-1000010 - 4)] ν18
                    refine jv_ireturn rfl (Or.inl rfl) ?_
                    exact ⟨jv_one (by omega), by exfalso; omega⟩
            · first
              | (exfalso; omega)
              | skip
                refine jv_ldc rfl rfl ?_
                refine jv_ireturn rfl (Or.inl rfl) ?_
                exact ⟨jv_one (by omega), hI⟩
        · first
          | (exfalso; omega)
          | skip
            show jV _ _ jm_p_X10_row _ 8 [some (.inr (.inr 94)), some (.inl r), some (.inl ln), some (.inl n), none] [.inl 0] μ
            refine jv_if_eqT rfl rfl (by decide) ?_
            refine jv_ldc rfl rfl ?_
            refine jv_ireturn rfl (Or.inl rfl) ?_
            exact ⟨jv_one (by omega), hI⟩
    · first
      | (exfalso; omega)
      | skip
        show jV _ _ jm_p_X10_row _ 2 [some (.inr (.inr 94)), some (.inl r), some (.inl ln), some (.inl n), none] [.inl 0] μ
        refine jv_if_eqT rfl rfl (by decide) ?_
        refine jv_ldc rfl rfl ?_
        refine jv_ireturn rfl (Or.inl rfl) ?_
        exact ⟨jv_one (by omega), hI⟩
  · show jV _ _ jm_p_X9_row _ 2 [some (.inr (.inr 0)), some (.inl r), some (.inl ln), some (.inl n)] [.inl 0] μ
    refine jv_if_neF rfl rfl (by decide) ?_
    refine jv_iload_n rfl rfl rfl ?_
    refine jv_if_lt rfl rfl rfl (fun c4 => ?_) (fun c4 => ?_)
    · refine jv_ldc rfl rfl ?_
      refine jv_ireturn rfl (Or.inl rfl) ?_
      refine ⟨_, rfl, ?_⟩
      skip
      refine jv_enter (d := 199) jm_p_X10_row [some (.inr (.inr 94)), some (.inl r), some (.inl ln), some (.inl n), none] rfl rfl rfl (Nat.le_of_ble_eq_true rfl) rfl rfl ?_
      refine jv_iload_n rfl rfl rfl ?_
      refine jv_callS1 rfl rfl rfl (Nat.le_of_ble_eq_true rfl) (mo_isRow (fun b1 => ?_) (fun b1 => ?_))
      · first
        | (exfalso; omega)
        | skip
          show jV _ _ jm_p_X10_row _ 2 [some (.inr (.inr 94)), some (.inl r), some (.inl ln), some (.inl n), none] [.inl 1] μ
          refine jv_if_eqF rfl rfl (by decide) ?_
          refine jv_iload_n rfl rfl rfl ?_
          refine jv_i2l rfl rfl ?_
          refine jv_lconst rfl rfl ?_
          refine jv_ldc2_w rfl rfl ?_
          refine jv_callS3 rfl rfl rfl (Nat.le_of_ble_eq_true rfl) (mo_in (fun b7 => ?_) (fun b7 => ?_))
          · first
            | (exfalso; omega)
            | skip
              show jV _ _ jm_p_X10_row _ 8 [some (.inr (.inr 94)), some (.inl r), some (.inl ln), some (.inl n), none] [.inl 1] μ
              refine jv_if_eqF rfl rfl (by decide) ?_
              refine jv_iload_n rfl rfl rfl ?_
              refine jv_bipush rfl rfl ?_
              refine jv_icmp_le rfl rfl rfl (fun c11 => ?_) (fun c11 => ?_)
              · first
                | (exfalso; omega)
                | skip
                  refine jv_iload_n rfl rfl rfl ?_
                  refine jv_if_ge rfl rfl rfl (fun c15 => ?_) (fun c15 => ?_)
                  · first
                    | (exfalso; omega)
                    | skip
                      refine jv_aload_n rfl rfl rfl (by decide) ?_
                      refine jv_getr (w := 97) rfl rfl rfl ⟨by decide, rfl⟩ rfl rfl ?_
                      refine jv_iload_n rfl rfl rfl ?_
                      refine jv_iload_n rfl rfl rfl ?_
                      refine jv_iastore rfl rfl rfl (by decide) ⟨by omega, by omega⟩ (fun ν24 eν24 => ?_)
                      refine jv_aload_n rfl rfl rfl (by decide) ?_
                      refine jv_getr (w := 98) rfl rfl rfl ⟨by decide, rfl⟩ rfl rfl ?_
                      refine jv_iload_n rfl rfl rfl ?_
                      refine jv_iload_n rfl rfl rfl ?_
                      refine jv_iastore rfl rfl rfl (by decide) ⟨by omega, by omega⟩ (fun ν29 eν29 => ?_)
                      refine jv_iconst rfl rfl ?_
                      refine jv_istoreK (L2 := [some (.inr (.inr 94)), some (.inl r), some (.inl ln), some (.inl n), some (.inl 0)]) rfl rfl rfl ?_
                      refine mo_row_l (by omega) (μ0 := ν29) (fun μz eμz => ?_) 41 0 ν29 (by omega) (by omega) (by omega) ?_
                      · have hz : ∀ z, μz z = jm_uc (jm_uc (jm_uc (jm_uc (jm_uc (jm_uc (jm_uc (jm_uc μ 3 (jm_u1 (μ 3) r ln)) 4 (jm_u1 (μ 4) r n)) 2 (jz_zero (μ 2) (40 * r) 40)) 0 (jm_u1 (μ 0) 11 0)) 97 (jm_u1 (μ 97) r ln)) 98 (jm_u1 (μ 98) r n)) 99 (jz_zero (μ 99) (40 * r) 40)) 94 (jm_u1 (μ 94) 10 0) z := by
                          intro z
                          rw [eμz, eν29, eν24, eμ27, eμ24c]
                          rfl
                        refine ⟨rfl, jI_rowsC hI ⟨fun j j0 j1 => ?_, fun q q0 q1 => ?_⟩ (fun z a b c d d2 d3 d4 d5 => by rw [hz, jm_off1 d2, jm_off1 d5, jm_off1 d4, jm_off1 d3, jm_off1 a, jm_off1 b, jm_off1 d, jm_off1 c]) ?_ ?_ ?_ ?_ ?_ ?_⟩
                        · rw [hz, hz]
                          show jz_zero (μ 2) (40 * r) 40 j = jz_zero (μ 99) (40 * r) 40 j
                          unfold jz_zero
                          rw [hit j j0 j1]
                        · rw [hz, hz, hz, hz]
                          show jm_u1 (μ 3) r ln q = jm_u1 (μ 97) r ln q ∧ jm_u1 (μ 4) r n q = jm_u1 (μ 98) r n q ∧ (-1 ≤ jm_u1 (μ 98) r n q ∧ jm_u1 (μ 98) r n q ≤ 40) ∧ (0 ≤ jm_u1 (μ 97) r ln q ∧ jm_u1 (μ 97) r ln q ≤ 2)
                          have := hlan q q0 q1
                          unfold jm_u1
                          split <;> omega
                        · rw [hz]; rfl
                        · rw [hz]; rfl
                        · rw [hz]; rfl
                        · rw [hz]; rfl
                        · rw [hz, hz]; rfl
                        · rw [hz, hz]
                          exact hfa
                      · have e : jz_zero (ν29 99) (40 * r) 0 = ν29 99 := by
                          funext j
                          unfold jz_zero
                          rw [if_neg (by omega)]
                        rw [e, jm_uc_id]
                  · first
                    | (exfalso; omega)
                    | skip
                      refine jv_aload_n rfl rfl rfl (by decide) ?_
                      refine jv_iconst rfl rfl ?_
                      refine jv_callV1 rfl rfl rfl rfl ⟨by decide, rfl⟩ (Nat.le_of_ble_eq_true rfl) (mo_find (by omega) (fun ν18 eν18 => ?_))
                      show jV _ _ jm_p_X10_row _ 19 [some (.inr (.inr 94)), some (.inl r), some (.inl ln), some (.inl n), none] [.inl (-1000010 - 4)] ν18
                      refine jv_ireturn rfl (Or.inl rfl) ?_
                      exact ⟨jv_one (by omega), by exfalso; omega⟩
              · first
                | (exfalso; omega)
                | skip
                  refine jv_ldc rfl rfl ?_
                  refine jv_ireturn rfl (Or.inl rfl) ?_
                  exact ⟨jv_one (by omega), hI⟩
          · first
            | (exfalso; omega)
            | skip
              show jV _ _ jm_p_X10_row _ 8 [some (.inr (.inr 94)), some (.inl r), some (.inl ln), some (.inl n), none] [.inl 0] μ
              refine jv_if_eqT rfl rfl (by decide) ?_
              refine jv_ldc rfl rfl ?_
              refine jv_ireturn rfl (Or.inl rfl) ?_
              exact ⟨jv_one (by omega), hI⟩
      · first
        | (exfalso; omega)
        | skip
          show jV _ _ jm_p_X10_row _ 2 [some (.inr (.inr 94)), some (.inl r), some (.inl ln), some (.inl n), none] [.inl 0] μ
          refine jv_if_eqT rfl rfl (by decide) ?_
          refine jv_ldc rfl rfl ?_
          refine jv_ireturn rfl (Or.inl rfl) ?_
          exact ⟨jv_one (by omega), hI⟩
    · refine jv_iload_n rfl rfl rfl ?_
      refine jv_iconst rfl rfl ?_
      refine jv_icmp_ge rfl rfl rfl (fun c7 => ?_) (fun c7 => ?_)
      · refine jv_ldc rfl rfl ?_
        refine jv_ireturn rfl (Or.inl rfl) ?_
        refine ⟨_, rfl, ?_⟩
        skip
        refine jv_enter (d := 199) jm_p_X10_row [some (.inr (.inr 94)), some (.inl r), some (.inl ln), some (.inl n), none] rfl rfl rfl (Nat.le_of_ble_eq_true rfl) rfl rfl ?_
        refine jv_iload_n rfl rfl rfl ?_
        refine jv_callS1 rfl rfl rfl (Nat.le_of_ble_eq_true rfl) (mo_isRow (fun b1 => ?_) (fun b1 => ?_))
        · first
          | (exfalso; omega)
          | skip
            show jV _ _ jm_p_X10_row _ 2 [some (.inr (.inr 94)), some (.inl r), some (.inl ln), some (.inl n), none] [.inl 1] μ
            refine jv_if_eqF rfl rfl (by decide) ?_
            refine jv_iload_n rfl rfl rfl ?_
            refine jv_i2l rfl rfl ?_
            refine jv_lconst rfl rfl ?_
            refine jv_ldc2_w rfl rfl ?_
            refine jv_callS3 rfl rfl rfl (Nat.le_of_ble_eq_true rfl) (mo_in (fun b7 => ?_) (fun b7 => ?_))
            · first
              | (exfalso; omega)
              | skip
                show jV _ _ jm_p_X10_row _ 8 [some (.inr (.inr 94)), some (.inl r), some (.inl ln), some (.inl n), none] [.inl 1] μ
                refine jv_if_eqF rfl rfl (by decide) ?_
                refine jv_iload_n rfl rfl rfl ?_
                refine jv_bipush rfl rfl ?_
                refine jv_icmp_le rfl rfl rfl (fun c11 => ?_) (fun c11 => ?_)
                · first
                  | (exfalso; omega)
                  | skip
                    refine jv_iload_n rfl rfl rfl ?_
                    refine jv_if_ge rfl rfl rfl (fun c15 => ?_) (fun c15 => ?_)
                    · first
                      | (exfalso; omega)
                      | skip
                        refine jv_aload_n rfl rfl rfl (by decide) ?_
                        refine jv_getr (w := 97) rfl rfl rfl ⟨by decide, rfl⟩ rfl rfl ?_
                        refine jv_iload_n rfl rfl rfl ?_
                        refine jv_iload_n rfl rfl rfl ?_
                        refine jv_iastore rfl rfl rfl (by decide) ⟨by omega, by omega⟩ (fun ν24 eν24 => ?_)
                        refine jv_aload_n rfl rfl rfl (by decide) ?_
                        refine jv_getr (w := 98) rfl rfl rfl ⟨by decide, rfl⟩ rfl rfl ?_
                        refine jv_iload_n rfl rfl rfl ?_
                        refine jv_iload_n rfl rfl rfl ?_
                        refine jv_iastore rfl rfl rfl (by decide) ⟨by omega, by omega⟩ (fun ν29 eν29 => ?_)
                        refine jv_iconst rfl rfl ?_
                        refine jv_istoreK (L2 := [some (.inr (.inr 94)), some (.inl r), some (.inl ln), some (.inl n), some (.inl 0)]) rfl rfl rfl ?_
                        refine mo_row_l (by omega) (μ0 := ν29) (fun μz eμz => ?_) 41 0 ν29 (by omega) (by omega) (by omega) ?_
                        · have hz : ∀ z, μz z = jm_uc (jm_uc (jm_uc (jm_uc (jm_uc (jm_uc (jm_uc (jm_uc μ 3 (jm_u1 (μ 3) r ln)) 4 (jm_u1 (μ 4) r n)) 2 (jz_zero (μ 2) (40 * r) 40)) 0 (jm_u1 (μ 0) 11 0)) 97 (jm_u1 (μ 97) r ln)) 98 (jm_u1 (μ 98) r n)) 99 (jz_zero (μ 99) (40 * r) 40)) 94 (jm_u1 (μ 94) 10 0) z := by
                            intro z
                            rw [eμz, eν29, eν24, eμ27, eμ24c]
                            rfl
                          refine ⟨rfl, jI_rowsC hI ⟨fun j j0 j1 => ?_, fun q q0 q1 => ?_⟩ (fun z a b c d d2 d3 d4 d5 => by rw [hz, jm_off1 d2, jm_off1 d5, jm_off1 d4, jm_off1 d3, jm_off1 a, jm_off1 b, jm_off1 d, jm_off1 c]) ?_ ?_ ?_ ?_ ?_ ?_⟩
                          · rw [hz, hz]
                            show jz_zero (μ 2) (40 * r) 40 j = jz_zero (μ 99) (40 * r) 40 j
                            unfold jz_zero
                            rw [hit j j0 j1]
                          · rw [hz, hz, hz, hz]
                            show jm_u1 (μ 3) r ln q = jm_u1 (μ 97) r ln q ∧ jm_u1 (μ 4) r n q = jm_u1 (μ 98) r n q ∧ (-1 ≤ jm_u1 (μ 98) r n q ∧ jm_u1 (μ 98) r n q ≤ 40) ∧ (0 ≤ jm_u1 (μ 97) r ln q ∧ jm_u1 (μ 97) r ln q ≤ 2)
                            have := hlan q q0 q1
                            unfold jm_u1
                            split <;> omega
                          · rw [hz]; rfl
                          · rw [hz]; rfl
                          · rw [hz]; rfl
                          · rw [hz]; rfl
                          · rw [hz, hz]; rfl
                          · rw [hz, hz]
                            exact hfa
                        · have e : jz_zero (ν29 99) (40 * r) 0 = ν29 99 := by
                            funext j
                            unfold jz_zero
                            rw [if_neg (by omega)]
                          rw [e, jm_uc_id]
                    · first
                      | (exfalso; omega)
                      | skip
                        refine jv_aload_n rfl rfl rfl (by decide) ?_
                        refine jv_iconst rfl rfl ?_
                        refine jv_callV1 rfl rfl rfl rfl ⟨by decide, rfl⟩ (Nat.le_of_ble_eq_true rfl) (mo_find (by omega) (fun ν18 eν18 => ?_))
                        show jV _ _ jm_p_X10_row _ 19 [some (.inr (.inr 94)), some (.inl r), some (.inl ln), some (.inl n), none] [.inl (-1000010 - 4)] ν18
                        refine jv_ireturn rfl (Or.inl rfl) ?_
                        exact ⟨jv_one (by omega), by exfalso; omega⟩
                · first
                  | (exfalso; omega)
                  | skip
                    refine jv_ldc rfl rfl ?_
                    refine jv_ireturn rfl (Or.inl rfl) ?_
                    exact ⟨jv_one (by omega), hI⟩
            · first
              | (exfalso; omega)
              | skip
                show jV _ _ jm_p_X10_row _ 8 [some (.inr (.inr 94)), some (.inl r), some (.inl ln), some (.inl n), none] [.inl 0] μ
                refine jv_if_eqT rfl rfl (by decide) ?_
                refine jv_ldc rfl rfl ?_
                refine jv_ireturn rfl (Or.inl rfl) ?_
                exact ⟨jv_one (by omega), hI⟩
        · first
          | (exfalso; omega)
          | skip
            show jV _ _ jm_p_X10_row _ 2 [some (.inr (.inr 94)), some (.inl r), some (.inl ln), some (.inl n), none] [.inl 0] μ
            refine jv_if_eqT rfl rfl (by decide) ?_
            refine jv_ldc rfl rfl ?_
            refine jv_ireturn rfl (Or.inl rfl) ?_
            exact ⟨jv_one (by omega), hI⟩
      · refine jv_iload_n rfl rfl rfl ?_
        refine jv_bipush rfl rfl ?_
        refine jv_icmp_le rfl rfl rfl (fun c10 => ?_) (fun c10 => ?_)
        · refine jv_iload_n rfl rfl rfl ?_
          refine jv_if_ge rfl rfl rfl (fun c14 => ?_) (fun c14 => ?_)
          · refine jv_aload_n rfl rfl rfl (by decide) ?_
            refine jv_getr (w := 1) rfl rfl rfl ⟨by decide, rfl⟩ rfl rfl ?_
            refine jv_iload_n rfl rfl rfl ?_
            refine jv_iload_n rfl rfl rfl ?_
            refine jv_iload_n rfl rfl rfl ?_
            refine jv_callV3 rfl rfl rfl rfl ⟨by decide, rfl⟩ (Nat.le_of_ble_eq_true rfl) (cl_make (by omega) (fun μ24 eμ24 => ?_))
            show jV _ _ jm_p_X9_row _ 25 [some (.inr (.inr 0)), some (.inl r), some (.inl ln), some (.inl n)] [] μ24
            refine jv_aload_n rfl rfl rfl (by decide) ?_
            refine jv_iload_n rfl rfl rfl ?_
            refine jv_callV1 rfl rfl rfl rfl ⟨by decide, rfl⟩ (Nat.le_of_ble_eq_true rfl) (cl_unfound (fun μ27 eμ27 => ?_))
            show jV _ _ jm_p_X9_row _ 28 [some (.inr (.inr 0)), some (.inl r), some (.inl ln), some (.inl n)] [.inl n] μ27
            refine jv_ireturn rfl (Or.inl rfl) ?_
            refine ⟨_, rfl, ?_⟩
            have f97r : μ27 97 r = μ 97 r := by rw [eμ27, eμ24]; rfl
            have f98r : μ27 98 r = μ 98 r := by rw [eμ27, eμ24]; rfl
            have eμ24c := eμ24
            have eμ27c := eμ27
            refine jv_enter (d := 199) jm_p_X10_row [some (.inr (.inr 94)), some (.inl r), some (.inl ln), some (.inl n), none] rfl rfl rfl (Nat.le_of_ble_eq_true rfl) rfl rfl ?_
            refine jv_iload_n rfl rfl rfl ?_
            refine jv_callS1 rfl rfl rfl (Nat.le_of_ble_eq_true rfl) (mo_isRow (fun b1 => ?_) (fun b1 => ?_))
            · first
              | (exfalso; omega)
              | skip
                show jV _ _ jm_p_X10_row _ 2 [some (.inr (.inr 94)), some (.inl r), some (.inl ln), some (.inl n), none] [.inl 1] μ27
                refine jv_if_eqF rfl rfl (by decide) ?_
                refine jv_iload_n rfl rfl rfl ?_
                refine jv_i2l rfl rfl ?_
                refine jv_lconst rfl rfl ?_
                refine jv_ldc2_w rfl rfl ?_
                refine jv_callS3 rfl rfl rfl (Nat.le_of_ble_eq_true rfl) (mo_in (fun b7 => ?_) (fun b7 => ?_))
                · first
                  | (exfalso; omega)
                  | skip
                    show jV _ _ jm_p_X10_row _ 8 [some (.inr (.inr 94)), some (.inl r), some (.inl ln), some (.inl n), none] [.inl 1] μ27
                    refine jv_if_eqF rfl rfl (by decide) ?_
                    refine jv_iload_n rfl rfl rfl ?_
                    refine jv_bipush rfl rfl ?_
                    refine jv_icmp_le rfl rfl rfl (fun c11 => ?_) (fun c11 => ?_)
                    · first
                      | (exfalso; omega)
                      | skip
                        refine jv_iload_n rfl rfl rfl ?_
                        refine jv_if_ge rfl rfl rfl (fun c15 => ?_) (fun c15 => ?_)
                        · first
                          | (exfalso; omega)
                          | skip
                            refine jv_aload_n rfl rfl rfl (by decide) ?_
                            refine jv_getr (w := 97) rfl rfl rfl ⟨by decide, rfl⟩ rfl rfl ?_
                            refine jv_iload_n rfl rfl rfl ?_
                            refine jv_iload_n rfl rfl rfl ?_
                            refine jv_iastore rfl rfl rfl (by decide) ⟨by omega, by omega⟩ (fun ν24 eν24 => ?_)
                            refine jv_aload_n rfl rfl rfl (by decide) ?_
                            refine jv_getr (w := 98) rfl rfl rfl ⟨by decide, rfl⟩ rfl rfl ?_
                            refine jv_iload_n rfl rfl rfl ?_
                            refine jv_iload_n rfl rfl rfl ?_
                            refine jv_iastore rfl rfl rfl (by decide) ⟨by omega, by omega⟩ (fun ν29 eν29 => ?_)
                            refine jv_iconst rfl rfl ?_
                            refine jv_istoreK (L2 := [some (.inr (.inr 94)), some (.inl r), some (.inl ln), some (.inl n), some (.inl 0)]) rfl rfl rfl ?_
                            refine mo_row_l (by omega) (μ0 := ν29) (fun μz eμz => ?_) 41 0 ν29 (by omega) (by omega) (by omega) ?_
                            · have hz : ∀ z, μz z = jm_uc (jm_uc (jm_uc (jm_uc (jm_uc (jm_uc (jm_uc (jm_uc μ 3 (jm_u1 (μ 3) r ln)) 4 (jm_u1 (μ 4) r n)) 2 (jz_zero (μ 2) (40 * r) 40)) 0 (jm_u1 (μ 0) 11 0)) 97 (jm_u1 (μ 97) r ln)) 98 (jm_u1 (μ 98) r n)) 99 (jz_zero (μ 99) (40 * r) 40)) 94 (jm_u1 (μ 94) 10 0) z := by
                                intro z
                                rw [eμz, eν29, eν24, eμ27c, eμ24c]
                                rfl
                              refine ⟨rfl, jI_rowsC hI ⟨fun j j0 j1 => ?_, fun q q0 q1 => ?_⟩ (fun z a b c d d2 d3 d4 d5 => by rw [hz, jm_off1 d2, jm_off1 d5, jm_off1 d4, jm_off1 d3, jm_off1 a, jm_off1 b, jm_off1 d, jm_off1 c]) ?_ ?_ ?_ ?_ ?_ ?_⟩
                              · rw [hz, hz]
                                show jz_zero (μ 2) (40 * r) 40 j = jz_zero (μ 99) (40 * r) 40 j
                                unfold jz_zero
                                rw [hit j j0 j1]
                              · rw [hz, hz, hz, hz]
                                show jm_u1 (μ 3) r ln q = jm_u1 (μ 97) r ln q ∧ jm_u1 (μ 4) r n q = jm_u1 (μ 98) r n q ∧ (-1 ≤ jm_u1 (μ 98) r n q ∧ jm_u1 (μ 98) r n q ≤ 40) ∧ (0 ≤ jm_u1 (μ 97) r ln q ∧ jm_u1 (μ 97) r ln q ≤ 2)
                                have := hlan q q0 q1
                                unfold jm_u1
                                split <;> omega
                              · rw [hz]; rfl
                              · rw [hz]; rfl
                              · rw [hz]; rfl
                              · rw [hz]; rfl
                              · rw [hz, hz]; rfl
                              · rw [hz, hz]
                                exact hfa
                            · have e : jz_zero (ν29 99) (40 * r) 0 = ν29 99 := by
                                funext j
                                unfold jz_zero
                                rw [if_neg (by omega)]
                              rw [e, jm_uc_id]
                        · first
                          | (exfalso; omega)
                          | skip
                            refine jv_aload_n rfl rfl rfl (by decide) ?_
                            refine jv_iconst rfl rfl ?_
                            refine jv_callV1 rfl rfl rfl rfl ⟨by decide, rfl⟩ (Nat.le_of_ble_eq_true rfl) (mo_find (by omega) (fun ν18 eν18 => ?_))
                            show jV _ _ jm_p_X10_row _ 19 [some (.inr (.inr 94)), some (.inl r), some (.inl ln), some (.inl n), none] [.inl (-1000010 - 4)] ν18
                            refine jv_ireturn rfl (Or.inl rfl) ?_
                            exact ⟨jv_one (by omega), by exfalso; omega⟩
                    · first
                      | (exfalso; omega)
                      | skip
                        refine jv_ldc rfl rfl ?_
                        refine jv_ireturn rfl (Or.inl rfl) ?_
                        exact ⟨jv_one (by omega), by exfalso; omega⟩
                · first
                  | (exfalso; omega)
                  | skip
                    show jV _ _ jm_p_X10_row _ 8 [some (.inr (.inr 94)), some (.inl r), some (.inl ln), some (.inl n), none] [.inl 0] μ27
                    refine jv_if_eqT rfl rfl (by decide) ?_
                    refine jv_ldc rfl rfl ?_
                    refine jv_ireturn rfl (Or.inl rfl) ?_
                    exact ⟨jv_one (by omega), by exfalso; omega⟩
            · first
              | (exfalso; omega)
              | skip
                show jV _ _ jm_p_X10_row _ 2 [some (.inr (.inr 94)), some (.inl r), some (.inl ln), some (.inl n), none] [.inl 0] μ27
                refine jv_if_eqT rfl rfl (by decide) ?_
                refine jv_ldc rfl rfl ?_
                refine jv_ireturn rfl (Or.inl rfl) ?_
                exact ⟨jv_one (by omega), by exfalso; omega⟩
          · refine jv_aload_n rfl rfl rfl (by decide) ?_
            refine jv_iconst rfl rfl ?_
            refine jv_callV1 rfl rfl rfl rfl ⟨by decide, rfl⟩ (Nat.le_of_ble_eq_true rfl) (cl_found (by omega) (fun μ17 eμ17 => ?_))
            show jV _ _ jm_p_X9_row _ 18 [some (.inr (.inr 0)), some (.inl r), some (.inl ln), some (.inl n)] [.inl (-1000010 - 4)] μ17
            refine jv_ireturn rfl (Or.inl rfl) ?_
            refine ⟨_, rfl, ?_⟩
            have f97r : μ17 97 r = μ 97 r := by rw [eμ17]; rfl
            have f98r : μ17 98 r = μ 98 r := by rw [eμ17]; rfl
            refine jv_enter (d := 199) jm_p_X10_row [some (.inr (.inr 94)), some (.inl r), some (.inl ln), some (.inl n), none] rfl rfl rfl (Nat.le_of_ble_eq_true rfl) rfl rfl ?_
            refine jv_iload_n rfl rfl rfl ?_
            refine jv_callS1 rfl rfl rfl (Nat.le_of_ble_eq_true rfl) (mo_isRow (fun b1 => ?_) (fun b1 => ?_))
            · first
              | (exfalso; omega)
              | skip
                show jV _ _ jm_p_X10_row _ 2 [some (.inr (.inr 94)), some (.inl r), some (.inl ln), some (.inl n), none] [.inl 1] μ17
                refine jv_if_eqF rfl rfl (by decide) ?_
                refine jv_iload_n rfl rfl rfl ?_
                refine jv_i2l rfl rfl ?_
                refine jv_lconst rfl rfl ?_
                refine jv_ldc2_w rfl rfl ?_
                refine jv_callS3 rfl rfl rfl (Nat.le_of_ble_eq_true rfl) (mo_in (fun b7 => ?_) (fun b7 => ?_))
                · first
                  | (exfalso; omega)
                  | skip
                    show jV _ _ jm_p_X10_row _ 8 [some (.inr (.inr 94)), some (.inl r), some (.inl ln), some (.inl n), none] [.inl 1] μ17
                    refine jv_if_eqF rfl rfl (by decide) ?_
                    refine jv_iload_n rfl rfl rfl ?_
                    refine jv_bipush rfl rfl ?_
                    refine jv_icmp_le rfl rfl rfl (fun c11 => ?_) (fun c11 => ?_)
                    · first
                      | (exfalso; omega)
                      | skip
                        refine jv_iload_n rfl rfl rfl ?_
                        refine jv_if_ge rfl rfl rfl (fun c15 => ?_) (fun c15 => ?_)
                        · first
                          | (exfalso; omega)
                          | skip
                            refine jv_aload_n rfl rfl rfl (by decide) ?_
                            refine jv_getr (w := 97) rfl rfl rfl ⟨by decide, rfl⟩ rfl rfl ?_
                            refine jv_iload_n rfl rfl rfl ?_
                            refine jv_iload_n rfl rfl rfl ?_
                            refine jv_iastore rfl rfl rfl (by decide) ⟨by omega, by omega⟩ (fun ν24 eν24 => ?_)
                            refine jv_aload_n rfl rfl rfl (by decide) ?_
                            refine jv_getr (w := 98) rfl rfl rfl ⟨by decide, rfl⟩ rfl rfl ?_
                            refine jv_iload_n rfl rfl rfl ?_
                            refine jv_iload_n rfl rfl rfl ?_
                            refine jv_iastore rfl rfl rfl (by decide) ⟨by omega, by omega⟩ (fun ν29 eν29 => ?_)
                            refine jv_iconst rfl rfl ?_
                            refine jv_istoreK (L2 := [some (.inr (.inr 94)), some (.inl r), some (.inl ln), some (.inl n), some (.inl 0)]) rfl rfl rfl ?_
                            refine mo_row_l (by omega) (μ0 := ν29) (fun μz eμz => ?_) 41 0 ν29 (by omega) (by omega) (by omega) ?_
                            · have hz : ∀ z, μz z = jm_uc (jm_uc (jm_uc (jm_uc (jm_uc (jm_uc (jm_uc (jm_uc μ 3 (jm_u1 (μ 3) r ln)) 4 (jm_u1 (μ 4) r n)) 2 (jz_zero (μ 2) (40 * r) 40)) 0 (jm_u1 (μ 0) 11 0)) 97 (jm_u1 (μ 97) r ln)) 98 (jm_u1 (μ 98) r n)) 99 (jz_zero (μ 99) (40 * r) 40)) 94 (jm_u1 (μ 94) 10 0) z := by
                                intro z
                                rw [eμz, eν29, eν24, eμ27c, eμ24c]
                                rfl
                              refine ⟨rfl, jI_rowsC hI ⟨fun j j0 j1 => ?_, fun q q0 q1 => ?_⟩ (fun z a b c d d2 d3 d4 d5 => by rw [hz, jm_off1 d2, jm_off1 d5, jm_off1 d4, jm_off1 d3, jm_off1 a, jm_off1 b, jm_off1 d, jm_off1 c]) ?_ ?_ ?_ ?_ ?_ ?_⟩
                              · rw [hz, hz]
                                show jz_zero (μ 2) (40 * r) 40 j = jz_zero (μ 99) (40 * r) 40 j
                                unfold jz_zero
                                rw [hit j j0 j1]
                              · rw [hz, hz, hz, hz]
                                show jm_u1 (μ 3) r ln q = jm_u1 (μ 97) r ln q ∧ jm_u1 (μ 4) r n q = jm_u1 (μ 98) r n q ∧ (-1 ≤ jm_u1 (μ 98) r n q ∧ jm_u1 (μ 98) r n q ≤ 40) ∧ (0 ≤ jm_u1 (μ 97) r ln q ∧ jm_u1 (μ 97) r ln q ≤ 2)
                                have := hlan q q0 q1
                                unfold jm_u1
                                split <;> omega
                              · rw [hz]; rfl
                              · rw [hz]; rfl
                              · rw [hz]; rfl
                              · rw [hz]; rfl
                              · rw [hz, hz]; rfl
                              · rw [hz, hz]
                                exact hfa
                            · have e : jz_zero (ν29 99) (40 * r) 0 = ν29 99 := by
                                funext j
                                unfold jz_zero
                                rw [if_neg (by omega)]
                              rw [e, jm_uc_id]
                        · first
                          | (exfalso; omega)
                          | skip
                            refine jv_aload_n rfl rfl rfl (by decide) ?_
                            refine jv_iconst rfl rfl ?_
                            refine jv_callV1 rfl rfl rfl rfl ⟨by decide, rfl⟩ (Nat.le_of_ble_eq_true rfl) (mo_find (by omega) (fun ν18 eν18 => ?_))
                            show jV _ _ jm_p_X10_row _ 19 [some (.inr (.inr 94)), some (.inl r), some (.inl ln), some (.inl n), none] [.inl (-1000010 - 4)] ν18
                            refine jv_ireturn rfl (Or.inl rfl) ?_
                            exact ⟨jv_one (by omega), jI_find hI eμ17 eν18⟩
                    · first
                      | (exfalso; omega)
                      | skip
                        refine jv_ldc rfl rfl ?_
                        refine jv_ireturn rfl (Or.inl rfl) ?_
                        exact ⟨jv_one (by omega), by exfalso; omega⟩
                · first
                  | (exfalso; omega)
                  | skip
                    show jV _ _ jm_p_X10_row _ 8 [some (.inr (.inr 94)), some (.inl r), some (.inl ln), some (.inl n), none] [.inl 0] μ17
                    refine jv_if_eqT rfl rfl (by decide) ?_
                    refine jv_ldc rfl rfl ?_
                    refine jv_ireturn rfl (Or.inl rfl) ?_
                    exact ⟨jv_one (by omega), by exfalso; omega⟩
            · first
              | (exfalso; omega)
              | skip
                show jV _ _ jm_p_X10_row _ 2 [some (.inr (.inr 94)), some (.inl r), some (.inl ln), some (.inl n), none] [.inl 0] μ17
                refine jv_if_eqT rfl rfl (by decide) ?_
                refine jv_ldc rfl rfl ?_
                refine jv_ireturn rfl (Or.inl rfl) ?_
                exact ⟨jv_one (by omega), by exfalso; omega⟩
        · refine jv_ldc rfl rfl ?_
          refine jv_ireturn rfl (Or.inl rfl) ?_
          refine ⟨_, rfl, ?_⟩
          skip
          refine jv_enter (d := 199) jm_p_X10_row [some (.inr (.inr 94)), some (.inl r), some (.inl ln), some (.inl n), none] rfl rfl rfl (Nat.le_of_ble_eq_true rfl) rfl rfl ?_
          refine jv_iload_n rfl rfl rfl ?_
          refine jv_callS1 rfl rfl rfl (Nat.le_of_ble_eq_true rfl) (mo_isRow (fun b1 => ?_) (fun b1 => ?_))
          · first
            | (exfalso; omega)
            | skip
              show jV _ _ jm_p_X10_row _ 2 [some (.inr (.inr 94)), some (.inl r), some (.inl ln), some (.inl n), none] [.inl 1] μ
              refine jv_if_eqF rfl rfl (by decide) ?_
              refine jv_iload_n rfl rfl rfl ?_
              refine jv_i2l rfl rfl ?_
              refine jv_lconst rfl rfl ?_
              refine jv_ldc2_w rfl rfl ?_
              refine jv_callS3 rfl rfl rfl (Nat.le_of_ble_eq_true rfl) (mo_in (fun b7 => ?_) (fun b7 => ?_))
              · first
                | (exfalso; omega)
                | skip
                  show jV _ _ jm_p_X10_row _ 8 [some (.inr (.inr 94)), some (.inl r), some (.inl ln), some (.inl n), none] [.inl 1] μ
                  refine jv_if_eqF rfl rfl (by decide) ?_
                  refine jv_iload_n rfl rfl rfl ?_
                  refine jv_bipush rfl rfl ?_
                  refine jv_icmp_le rfl rfl rfl (fun c11 => ?_) (fun c11 => ?_)
                  · first
                    | (exfalso; omega)
                    | skip
                      refine jv_iload_n rfl rfl rfl ?_
                      refine jv_if_ge rfl rfl rfl (fun c15 => ?_) (fun c15 => ?_)
                      · first
                        | (exfalso; omega)
                        | skip
                          refine jv_aload_n rfl rfl rfl (by decide) ?_
                          refine jv_getr (w := 97) rfl rfl rfl ⟨by decide, rfl⟩ rfl rfl ?_
                          refine jv_iload_n rfl rfl rfl ?_
                          refine jv_iload_n rfl rfl rfl ?_
                          refine jv_iastore rfl rfl rfl (by decide) ⟨by omega, by omega⟩ (fun ν24 eν24 => ?_)
                          refine jv_aload_n rfl rfl rfl (by decide) ?_
                          refine jv_getr (w := 98) rfl rfl rfl ⟨by decide, rfl⟩ rfl rfl ?_
                          refine jv_iload_n rfl rfl rfl ?_
                          refine jv_iload_n rfl rfl rfl ?_
                          refine jv_iastore rfl rfl rfl (by decide) ⟨by omega, by omega⟩ (fun ν29 eν29 => ?_)
                          refine jv_iconst rfl rfl ?_
                          refine jv_istoreK (L2 := [some (.inr (.inr 94)), some (.inl r), some (.inl ln), some (.inl n), some (.inl 0)]) rfl rfl rfl ?_
                          refine mo_row_l (by omega) (μ0 := ν29) (fun μz eμz => ?_) 41 0 ν29 (by omega) (by omega) (by omega) ?_
                          · have hz : ∀ z, μz z = jm_uc (jm_uc (jm_uc (jm_uc (jm_uc (jm_uc (jm_uc (jm_uc μ 3 (jm_u1 (μ 3) r ln)) 4 (jm_u1 (μ 4) r n)) 2 (jz_zero (μ 2) (40 * r) 40)) 0 (jm_u1 (μ 0) 11 0)) 97 (jm_u1 (μ 97) r ln)) 98 (jm_u1 (μ 98) r n)) 99 (jz_zero (μ 99) (40 * r) 40)) 94 (jm_u1 (μ 94) 10 0) z := by
                              intro z
                              rw [eμz, eν29, eν24, eμ27c, eμ24c]
                              rfl
                            refine ⟨rfl, jI_rowsC hI ⟨fun j j0 j1 => ?_, fun q q0 q1 => ?_⟩ (fun z a b c d d2 d3 d4 d5 => by rw [hz, jm_off1 d2, jm_off1 d5, jm_off1 d4, jm_off1 d3, jm_off1 a, jm_off1 b, jm_off1 d, jm_off1 c]) ?_ ?_ ?_ ?_ ?_ ?_⟩
                            · rw [hz, hz]
                              show jz_zero (μ 2) (40 * r) 40 j = jz_zero (μ 99) (40 * r) 40 j
                              unfold jz_zero
                              rw [hit j j0 j1]
                            · rw [hz, hz, hz, hz]
                              show jm_u1 (μ 3) r ln q = jm_u1 (μ 97) r ln q ∧ jm_u1 (μ 4) r n q = jm_u1 (μ 98) r n q ∧ (-1 ≤ jm_u1 (μ 98) r n q ∧ jm_u1 (μ 98) r n q ≤ 40) ∧ (0 ≤ jm_u1 (μ 97) r ln q ∧ jm_u1 (μ 97) r ln q ≤ 2)
                              have := hlan q q0 q1
                              unfold jm_u1
                              split <;> omega
                            · rw [hz]; rfl
                            · rw [hz]; rfl
                            · rw [hz]; rfl
                            · rw [hz]; rfl
                            · rw [hz, hz]; rfl
                            · rw [hz, hz]
                              exact hfa
                          · have e : jz_zero (ν29 99) (40 * r) 0 = ν29 99 := by
                              funext j
                              unfold jz_zero
                              rw [if_neg (by omega)]
                            rw [e, jm_uc_id]
                      · first
                        | (exfalso; omega)
                        | skip
                          refine jv_aload_n rfl rfl rfl (by decide) ?_
                          refine jv_iconst rfl rfl ?_
                          refine jv_callV1 rfl rfl rfl rfl ⟨by decide, rfl⟩ (Nat.le_of_ble_eq_true rfl) (mo_find (by omega) (fun ν18 eν18 => ?_))
                          show jV _ _ jm_p_X10_row _ 19 [some (.inr (.inr 94)), some (.inl r), some (.inl ln), some (.inl n), none] [.inl (-1000010 - 4)] ν18
                          refine jv_ireturn rfl (Or.inl rfl) ?_
                          exact ⟨jv_one (by omega), by exfalso; omega⟩
                  · first
                    | (exfalso; omega)
                    | skip
                      refine jv_ldc rfl rfl ?_
                      refine jv_ireturn rfl (Or.inl rfl) ?_
                      exact ⟨jv_one (by omega), hI⟩
              · first
                | (exfalso; omega)
                | skip
                  show jV _ _ jm_p_X10_row _ 8 [some (.inr (.inr 94)), some (.inl r), some (.inl ln), some (.inl n), none] [.inl 0] μ
                  refine jv_if_eqT rfl rfl (by decide) ?_
                  refine jv_ldc rfl rfl ?_
                  refine jv_ireturn rfl (Or.inl rfl) ?_
                  exact ⟨jv_one (by omega), hI⟩
          · first
            | (exfalso; omega)
            | skip
              show jV _ _ jm_p_X10_row _ 2 [some (.inr (.inr 94)), some (.inl r), some (.inl ln), some (.inl n), none] [.inl 0] μ
              refine jv_if_eqT rfl rfl (by decide) ?_
              refine jv_ldc rfl rfl ?_
              refine jv_ireturn rfl (Or.inl rfl) ?_
              exact ⟨jv_one (by omega), hI⟩
