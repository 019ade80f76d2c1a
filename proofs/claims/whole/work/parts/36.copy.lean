set_option maxRecDepth 10000 in
theorem cl_carryOver {X : jm_X} {d : Nat} {Q : jv_P} {μ : jm_M} {a i b j n : Int} (ha : 0 ≤ a ∧ a < 8) (hb : 0 ≤ b ∧ b < 8) (hi : 0 ≤ i ∧ i + n ≤ 40) (hj : 0 ≤ j ∧ j + n ≤ 40) (hn : 0 ≤ n) (k : ∀ μ2, μ2 = jm_uc μ 2 (jm_cpy (μ 2) (μ 2) (40 * a + i) (40 * b + j) n) → Q [] μ2) : cV X (d + 1) 79 [.inr (.inr 1), .inl a, .inl i, .inl b, .inl j, .inl n] μ Q := by
  refine jv_enter (d := d + 0) jm_p_X7_carryOver [some (.inr (.inr 1)), some (.inl a), some (.inl i), some (.inl b), some (.inl j), some (.inl n)] rfl rfl rfl (Nat.le_of_ble_eq_true rfl) rfl rfl ?_
  refine jv_aload_n rfl rfl rfl (by decide) ?_
  refine jv_getr (w := 2) rfl rfl rfl ⟨by decide, rfl⟩ rfl rfl ?_
  refine jv_iload_n rfl rfl rfl ?_
  refine jv_bipush rfl rfl ?_
  refine jv_imul rfl rfl ⟨by omega, by omega⟩ ?_
  refine jv_iload_n rfl rfl rfl ?_
  refine jv_iadd rfl rfl ⟨by omega, by omega⟩ ?_
  refine jv_aload_n rfl rfl rfl (by decide) ?_
  refine jv_getr (w := 2) rfl rfl rfl ⟨by decide, rfl⟩ rfl rfl ?_
  refine jv_iload_n rfl rfl rfl ?_
  refine jv_bipush rfl rfl ?_
  refine jv_imul rfl rfl ⟨by omega, by omega⟩ ?_
  refine jv_iload rfl rfl rfl ?_
  refine jv_iadd rfl rfl ⟨by omega, by omega⟩ ?_
  refine jv_iload rfl rfl rfl ?_
  refine jv_acopy rfl rfl rfl rfl ⟨by decide, by decide⟩ (Nat.le_of_ble_eq_true rfl) ⟨⟨by omega, by omega, by omega⟩, by omega, by omega⟩ (fun μ15 eμ15 => ?_)
  refine jv_return rfl ?_
  exact k _ (by rw [eμ15, show a * 40 + i = 40 * a + i by omega, show b * 40 + j = 40 * b + j by omega])
set_option maxRecDepth 10000 in
set_option maxHeartbeats 1000000 in
theorem mo_copy_f {X : jm_X} {d : Nat} {Q : jv_P} {a i b j n : Int} {μ0 : jm_M} (ha : 0 ≤ a ∧ a < 8) (hb : 0 ≤ b ∧ b < 8) (hi : 0 ≤ i ∧ i + n ≤ 40) (hj : 0 ≤ j ∧ j + n ≤ 40) (hn : 0 ≤ n) (hc : j ≤ i) (k : ∀ μ2, μ2 = jm_uc (jm_uc μ0 99 (jm_cpy (μ0 99) (μ0 99) (40 * a + i) (40 * b + j) n)) 94 (jm_u1 (μ0 94) 10 0) → Q [.inl n] μ2) : ∀ (c : Nat) (w : Int) (o8 : Option jm_V) (μ : jm_M), 0 ≤ w → w ≤ n → n - w < c → μ = jm_uc μ0 99 (fun z => if 40 * b + j ≤ z ∧ z < 40 * b + j + w then μ0 99 (40 * a + i + (z - (40 * b + j))) else μ0 99 z) → jV X (d + 1) jm_p_X10_copy Q 60 [some (.inr (.inr 94)), some (.inl a), some (.inl i), some (.inl b), some (.inl j), some (.inl n), some (.inl 0), some (.inl w), o8] [] μ := by
  intro c
  induction c with
  | zero => intro w o8 μ x0 x1 xn hμ; exfalso; omega
  | succ c ih =>
    intro w o8 μ x0 x1 xn hμ
    refine jv_iload rfl rfl rfl ?_
    refine jv_iload rfl rfl rfl ?_
    refine jv_icmp_ge rfl rfl rfl (fun c62 => ?_) (fun c62 => ?_)
    · refine jv_aload_n rfl rfl rfl (by decide) ?_
      refine jv_iload rfl rfl rfl ?_
      refine jv_callV1 rfl rfl rfl rfl ⟨by decide, rfl⟩ (Nat.le_of_ble_eq_true rfl) (mo_well (fun μ97 eμ97 => ?_))
      show jV _ _ jm_p_X10_copy _ 98 [some (.inr (.inr 94)), some (.inl a), some (.inl i), some (.inl b), some (.inl j), some (.inl n), some (.inl 0), some (.inl w), o8] [.inl n] μ97
      refine jv_ireturn rfl (Or.inl rfl) ?_
      have hx : w = n := by omega
      refine k _ ?_
      have e9 : (fun z => if 40 * b + j ≤ z ∧ z < 40 * b + j + w then μ0 99 (40 * a + i + (z - (40 * b + j))) else μ0 99 z) = jm_cpy (μ0 99) (μ0 99) (40 * a + i) (40 * b + j) n := by
        funext z
        unfold jm_cpy
        by_cases hr2 : 40 * b + j ≤ z ∧ z < 40 * b + j + w
        · rw [if_pos hr2, if_pos (by omega)]
        · rw [if_neg hr2, if_neg (by omega)]
      rw [eμ97, hμ, e9]
      rfl
    · refine jv_iload rfl rfl rfl ?_
      refine jv_if_eqT rfl rfl (by decide) ?_
      refine jv_iload rfl rfl rfl ?_
      refine jv_istore (fun x => [some (.inr (.inr 94)), some (.inl a), some (.inl i), some (.inl b), some (.inl j), some (.inl n), some (.inl 0), some (.inl w), some (.inl x)]) rfl rfl (fun _ => rfl) (fun x8_72 ex8_72 => ?_)
      refine jv_aload_n rfl rfl rfl (by decide) ?_
      refine jv_getr (w := 99) rfl rfl rfl ⟨by decide, rfl⟩ rfl rfl ?_
      refine jv_bipush rfl rfl ?_
      refine jv_iload_n rfl rfl rfl ?_
      refine jv_imul rfl rfl ⟨by omega, by omega⟩ ?_
      refine jv_iload rfl rfl rfl ?_
      refine jv_iadd rfl rfl ⟨by omega, by omega⟩ ?_
      refine jv_iload rfl rfl rfl ?_
      refine jv_iadd rfl rfl ⟨by omega, by omega⟩ ?_
      refine jv_aload_n rfl rfl rfl (by decide) ?_
      refine jv_getr (w := 99) rfl rfl rfl ⟨by decide, rfl⟩ rfl rfl ?_
      refine jv_bipush rfl rfl ?_
      refine jv_iload_n rfl rfl rfl ?_
      refine jv_imul rfl rfl ⟨by omega, by omega⟩ ?_
      refine jv_iload_n rfl rfl rfl ?_
      refine jv_iadd rfl rfl ⟨by omega, by omega⟩ ?_
      refine jv_iload rfl rfl rfl ?_
      refine jv_iadd rfl rfl ⟨by omega, by omega⟩ ?_
      refine jv_iaload rfl rfl (by decide) rfl ⟨by omega, by omega⟩ ?_
      refine jv_iastore rfl rfl rfl (by decide) ⟨by omega, by omega⟩ (fun μ92 eμ92 => ?_)
      refine jv_iinc (fun x => [some (.inr (.inr 94)), some (.inl a), some (.inl i), some (.inl b), some (.inl j), some (.inl n), some (.inl 0), some (.inl x), some (.inl x8_72)]) rfl rfl rfl ⟨by omega, by omega⟩ (fun _ => rfl) (fun x7_93 ex7_93 => ?_)
      refine jv_goto rfl rfl ?_
      refine ih x7_93 _ μ92 (by omega) (by omega) (by omega) ?_
      rw [eμ92, ex8_72, ex7_93, hμ, jm_uc2]
      congr 1
      funext z
      simp only [jm_u1, jm_uc_self]
      by_cases hz : z = 40 * b + j + w
      · rw [if_pos hz, if_neg (by omega), if_pos (by omega), hz]
        congr 1
        omega
      · rw [if_neg hz]
        by_cases hr2 : 40 * b + j ≤ z ∧ z < 40 * b + j + w
        · rw [if_pos hr2, if_pos (by omega)]
        · rw [if_neg hr2, if_neg (by omega)]
set_option maxRecDepth 10000 in
set_option maxHeartbeats 1000000 in
theorem mo_copy_b {X : jm_X} {d : Nat} {Q : jv_P} {a i b j n : Int} {μ0 : jm_M} (ha : 0 ≤ a ∧ a < 8) (hb : 0 ≤ b ∧ b < 8) (hi : 0 ≤ i ∧ i + n ≤ 40) (hj : 0 ≤ j ∧ j + n ≤ 40) (hn : 0 ≤ n) (hc : i < j) (k : ∀ μ2, μ2 = jm_uc (jm_uc μ0 99 (jm_cpy (μ0 99) (μ0 99) (40 * a + i) (40 * b + j) n)) 94 (jm_u1 (μ0 94) 10 0) → Q [.inl n] μ2) : ∀ (c : Nat) (w : Int) (o8 : Option jm_V) (μ : jm_M), 0 ≤ w → w ≤ n → n - w < c → μ = jm_uc μ0 99 (fun z => if 40 * b + j + n - w ≤ z ∧ z < 40 * b + j + n then μ0 99 (40 * a + i + (z - (40 * b + j))) else μ0 99 z) → jV X (d + 1) jm_p_X10_copy Q 60 [some (.inr (.inr 94)), some (.inl a), some (.inl i), some (.inl b), some (.inl j), some (.inl n), some (.inl 1), some (.inl w), o8] [] μ := by
  intro c
  induction c with
  | zero => intro w o8 μ x0 x1 xn hμ; exfalso; omega
  | succ c ih =>
    intro w o8 μ x0 x1 xn hμ
    refine jv_iload rfl rfl rfl ?_
    refine jv_iload rfl rfl rfl ?_
    refine jv_icmp_ge rfl rfl rfl (fun c62 => ?_) (fun c62 => ?_)
    · refine jv_aload_n rfl rfl rfl (by decide) ?_
      refine jv_iload rfl rfl rfl ?_
      refine jv_callV1 rfl rfl rfl rfl ⟨by decide, rfl⟩ (Nat.le_of_ble_eq_true rfl) (mo_well (fun μ97 eμ97 => ?_))
      show jV _ _ jm_p_X10_copy _ 98 [some (.inr (.inr 94)), some (.inl a), some (.inl i), some (.inl b), some (.inl j), some (.inl n), some (.inl 1), some (.inl w), o8] [.inl n] μ97
      refine jv_ireturn rfl (Or.inl rfl) ?_
      have hx : w = n := by omega
      refine k _ ?_
      have e9 : (fun z => if 40 * b + j + n - w ≤ z ∧ z < 40 * b + j + n then μ0 99 (40 * a + i + (z - (40 * b + j))) else μ0 99 z) = jm_cpy (μ0 99) (μ0 99) (40 * a + i) (40 * b + j) n := by
        funext z
        unfold jm_cpy
        by_cases hr2 : 40 * b + j + n - w ≤ z ∧ z < 40 * b + j + n
        · rw [if_pos hr2, if_pos (by omega)]
        · rw [if_neg hr2, if_neg (by omega)]
      rw [eμ97, hμ, e9]
      rfl
    · refine jv_iload rfl rfl rfl ?_
      refine jv_if_eqF rfl rfl (by decide) ?_
      refine jv_iload rfl rfl rfl ?_
      refine jv_iconst rfl rfl ?_
      refine jv_isub rfl rfl ⟨by omega, by omega⟩ ?_
      refine jv_iload rfl rfl rfl ?_
      refine jv_isub rfl rfl ⟨by omega, by omega⟩ ?_
      refine jv_goto rfl rfl ?_
      refine jv_istore (fun x => [some (.inr (.inr 94)), some (.inl a), some (.inl i), some (.inl b), some (.inl j), some (.inl n), some (.inl 1), some (.inl w), some (.inl x)]) rfl rfl (fun _ => rfl) (fun x8_72 ex8_72 => ?_)
      refine jv_aload_n rfl rfl rfl (by decide) ?_
      refine jv_getr (w := 99) rfl rfl rfl ⟨by decide, rfl⟩ rfl rfl ?_
      refine jv_bipush rfl rfl ?_
      refine jv_iload_n rfl rfl rfl ?_
      refine jv_imul rfl rfl ⟨by omega, by omega⟩ ?_
      refine jv_iload rfl rfl rfl ?_
      refine jv_iadd rfl rfl ⟨by omega, by omega⟩ ?_
      refine jv_iload rfl rfl rfl ?_
      refine jv_iadd rfl rfl ⟨by omega, by omega⟩ ?_
      refine jv_aload_n rfl rfl rfl (by decide) ?_
      refine jv_getr (w := 99) rfl rfl rfl ⟨by decide, rfl⟩ rfl rfl ?_
      refine jv_bipush rfl rfl ?_
      refine jv_iload_n rfl rfl rfl ?_
      refine jv_imul rfl rfl ⟨by omega, by omega⟩ ?_
      refine jv_iload_n rfl rfl rfl ?_
      refine jv_iadd rfl rfl ⟨by omega, by omega⟩ ?_
      refine jv_iload rfl rfl rfl ?_
      refine jv_iadd rfl rfl ⟨by omega, by omega⟩ ?_
      refine jv_iaload rfl rfl (by decide) rfl ⟨by omega, by omega⟩ ?_
      refine jv_iastore rfl rfl rfl (by decide) ⟨by omega, by omega⟩ (fun μ92 eμ92 => ?_)
      refine jv_iinc (fun x => [some (.inr (.inr 94)), some (.inl a), some (.inl i), some (.inl b), some (.inl j), some (.inl n), some (.inl 1), some (.inl x), some (.inl x8_72)]) rfl rfl rfl ⟨by omega, by omega⟩ (fun _ => rfl) (fun x7_93 ex7_93 => ?_)
      refine jv_goto rfl rfl ?_
      refine ih x7_93 _ μ92 (by omega) (by omega) (by omega) ?_
      rw [eμ92, ex8_72, ex7_93, hμ, jm_uc2]
      congr 1
      funext z
      simp only [jm_u1, jm_uc_self]
      by_cases hz : z = 40 * b + j + (n - 1 - w)
      · rw [if_pos hz, if_neg (by omega), if_pos (by omega), hz]
        congr 1
        omega
      · rw [if_neg hz]
        by_cases hr2 : 40 * b + j + n - w ≤ z ∧ z < 40 * b + j + n
        · rw [if_pos hr2, if_pos (by omega)]
        · rw [if_neg hr2, if_neg (by omega)]
set_option maxRecDepth 10000 in
set_option maxHeartbeats 1000000 in
theorem pr_copy {X : jm_X} {a : Int} {i : Int} {b : Int} {j : Int} {n : Int} (r_a : jm_r a) (r_i : jm_r i) (r_b : jm_r b) (r_j : jm_r j) (r_n : jm_r n) : jp X 90 145 [.inl a, .inl i, .inl b, .inl j, .inl n] := by
  intro μ hI
  obtain ⟨⟨hit, hlan⟩, ⟨ht0, ht1, ht2⟩, ⟨hr0, hr1, hr2⟩, ⟨hst, hfa⟩, htown, hidle, himg, hpast⟩ := id hI
  obtain ⟨hwf, hcf, hkd, hmat, hrel, hh01, hhot, hnc⟩ := id htown
  obtain ⟨⟨r0, r1, r2, r3⟩, rm, rz, rc⟩ := id hrel
  obtain ⟨w0, w1, w2, w3, w4, w6, w7, w8⟩ := id hwf
  have hla := hlan a
  have hlb := hlan b
  refine jv_enter (d := 199) jm_p_X9_copy [some (.inr (.inr 0)), some (.inl a), some (.inl i), some (.inl b), some (.inl j), some (.inl n)] rfl rfl rfl (Nat.le_of_ble_eq_true rfl) rfl rfl ?_
  refine jv_iload_n rfl rfl rfl ?_
  refine jv_callS1 rfl rfl rfl (Nat.le_of_ble_eq_true rfl) (cl_noRow (fun b1 => ?_) (fun b1 => ?_))
  · show jV _ _ jm_p_X9_copy _ 2 [some (.inr (.inr 0)), some (.inl a), some (.inl i), some (.inl b), some (.inl j), some (.inl n)] [.inl 1] μ
    refine jv_if_neT rfl rfl (by decide) ?_
    refine jv_ldc rfl rfl ?_
    refine jv_ireturn rfl (Or.inl rfl) ?_
    refine ⟨_, rfl, ?_⟩
    skip
    refine jv_enter (d := 199) jm_p_X10_copy [some (.inr (.inr 94)), some (.inl a), some (.inl i), some (.inl b), some (.inl j), some (.inl n), none, none, none] rfl rfl rfl (Nat.le_of_ble_eq_true rfl) rfl rfl ?_
    refine jv_iload_n rfl rfl rfl ?_
    refine jv_callS1 rfl rfl rfl (Nat.le_of_ble_eq_true rfl) (mo_isRow (fun b1 => ?_) (fun b1 => ?_))
    · first
      | (exfalso; omega)
      | skip
        show jV _ _ jm_p_X10_copy _ 2 [some (.inr (.inr 94)), some (.inl a), some (.inl i), some (.inl b), some (.inl j), some (.inl n), none, none, none] [.inl 1] μ
        refine jv_if_eqF rfl rfl (by decide) ?_
        refine jv_iload_n rfl rfl rfl ?_
        refine jv_callS1 rfl rfl rfl (Nat.le_of_ble_eq_true rfl) (mo_isRow (fun b4 => ?_) (fun b4 => ?_))
        · first
          | (exfalso; omega)
          | skip
            show jV _ _ jm_p_X10_copy _ 5 [some (.inr (.inr 94)), some (.inl a), some (.inl i), some (.inl b), some (.inl j), some (.inl n), none, none, none] [.inl 1] μ
            refine jv_if_neT rfl rfl (by decide) ?_
            refine jv_aload_n rfl rfl rfl (by decide) ?_
            refine jv_getr (w := 98) rfl rfl rfl ⟨by decide, rfl⟩ rfl rfl ?_
            refine jv_iload_n rfl rfl rfl ?_
            refine jv_iaload rfl rfl (by decide) rfl ⟨by omega, by omega⟩ ?_
            refine jv_if_lt rfl rfl rfl (fun c12 => ?_) (fun c12 => ?_)
            · first
              | (exfalso; omega)
              | skip
                refine jv_aload_n rfl rfl rfl (by decide) ?_
                refine jv_iconst rfl rfl ?_
                refine jv_callV1 rfl rfl rfl rfl ⟨by decide, rfl⟩ (Nat.le_of_ble_eq_true rfl) (mo_find (by omega) (fun ν20 eν20 => ?_))
                show jV _ _ jm_p_X10_copy _ 21 [some (.inr (.inr 94)), some (.inl a), some (.inl i), some (.inl b), some (.inl j), some (.inl n), none, none, none] [.inl (-1000010 - 1)] ν20
                refine jv_ireturn rfl (Or.inl rfl) ?_
                exact ⟨jv_one (by omega), by exfalso; omega⟩
            · first
              | (exfalso; omega)
              | skip
                refine jv_aload_n rfl rfl rfl (by decide) ?_
                refine jv_getr (w := 98) rfl rfl rfl ⟨by decide, rfl⟩ rfl rfl ?_
                refine jv_iload_n rfl rfl rfl ?_
                refine jv_iaload rfl rfl (by decide) rfl ⟨by omega, by omega⟩ ?_
                refine jv_if_ge rfl rfl rfl (fun c17 => ?_) (fun c17 => ?_)
                · first
                  | (exfalso; omega)
                  | skip
                    refine jv_aload_n rfl rfl rfl (by decide) ?_
                    refine jv_getr (w := 97) rfl rfl rfl ⟨by decide, rfl⟩ rfl rfl ?_
                    refine jv_iload_n rfl rfl rfl ?_
                    refine jv_iaload rfl rfl (by decide) rfl ⟨by omega, by omega⟩ ?_
                    refine jv_aload_n rfl rfl rfl (by decide) ?_
                    refine jv_getr (w := 97) rfl rfl rfl ⟨by decide, rfl⟩ rfl rfl ?_
                    refine jv_iload_n rfl rfl rfl ?_
                    refine jv_iaload rfl rfl (by decide) rfl ⟨by omega, by omega⟩ ?_
                    refine jv_icmp_eq rfl rfl rfl (fun c30 => ?_) (fun c30 => ?_)
                    · first
                      | (exfalso; omega)
                      | skip
                        refine jv_aload_n rfl rfl rfl (by decide) ?_
                        refine jv_iload_n rfl rfl rfl ?_
                        refine jv_iload_n rfl rfl rfl ?_
                        refine jv_iload rfl rfl rfl ?_
                        refine jv_callV3 rfl rfl rfl rfl ⟨by decide, rfl⟩ (Nat.le_of_ble_eq_true rfl) (mo_isSpan (by omega) (by omega) (by omega) (by omega) (fun b39 => ?_) (fun b39 => ?_))
                        · first
                          | (exfalso; omega)
                          | skip
                            show jV _ _ jm_p_X10_copy _ 40 [some (.inr (.inr 94)), some (.inl a), some (.inl i), some (.inl b), some (.inl j), some (.inl n), none, none, none] [.inl 1] μ
                            refine jv_if_eqF rfl rfl (by decide) ?_
                            refine jv_aload_n rfl rfl rfl (by decide) ?_
                            refine jv_iload_n rfl rfl rfl ?_
                            refine jv_iload rfl rfl rfl ?_
                            refine jv_iload rfl rfl rfl ?_
                            refine jv_callV3 rfl rfl rfl rfl ⟨by decide, rfl⟩ (Nat.le_of_ble_eq_true rfl) (mo_isSpan (by omega) (by omega) (by omega) (by omega) (fun b45 => ?_) (fun b45 => ?_))
                            · first
                              | (exfalso; omega)
                              | skip
                                show jV _ _ jm_p_X10_copy _ 46 [some (.inr (.inr 94)), some (.inl a), some (.inl i), some (.inl b), some (.inl j), some (.inl n), none, none, none] [.inl 1] μ
                                refine jv_if_neT rfl rfl (by decide) ?_
                                refine jv_iload_n rfl rfl rfl ?_
                                refine jv_iload rfl rfl rfl ?_
                                refine jv_icmp_ge rfl rfl rfl (fun c53 => ?_) (fun c53 => ?_)
                                · first
                                  | (exfalso; omega)
                                  | skip
                                    refine jv_iconst rfl rfl ?_
                                    refine jv_istoreK (L2 := [some (.inr (.inr 94)), some (.inl a), some (.inl i), some (.inl b), some (.inl j), some (.inl n), some (.inl 0), none, none]) rfl rfl rfl ?_
                                    refine jv_iconst rfl rfl ?_
                                    refine jv_istoreK (L2 := [some (.inr (.inr 94)), some (.inl a), some (.inl i), some (.inl b), some (.inl j), some (.inl n), some (.inl 0), some (.inl 0), none]) rfl rfl rfl ?_
                                    refine mo_copy_f (by omega) (by omega) (by omega) (by omega) (by omega) (by omega) (μ0 := μ) (fun μz eμz => ?_) 101 0 _ μ (by omega) (by omega) (by omega) ?_
                                    · have hz : ∀ z, μz z = jm_uc (jm_uc (jm_uc (jm_uc μ 2 (jm_cpy (μ 2) (μ 2) (40 * a + i) (40 * b + j) n)) 0 (jm_u1 (μ 0) 11 0)) 99 (jm_cpy (μ 99) (μ 99) (40 * a + i) (40 * b + j) n)) 94 (jm_u1 (μ 94) 10 0) z := by
                                        intro z
                                        rw [eμz, ecb, eca]
                                        rfl
                                      refine ⟨rfl, jI_rowsC hI ⟨fun q q0 q1 => ?_, fun q q0 q1 => ?_⟩ (fun z a1 b1 c1 d d2 d3 d4 d5 => by rw [hz, jm_off1 d2, jm_off1 d5, jm_off1 a1, jm_off1 b1]) ?_ ?_ ?_ ?_ ?_ ?_⟩
                                      · rw [hz, hz]
                                        show jm_cpy (μ 2) (μ 2) (40 * a + i) (40 * b + j) n q = jm_cpy (μ 99) (μ 99) (40 * a + i) (40 * b + j) n q
                                        unfold jm_cpy
                                        split
                                        · exact hit _ (by omega) (by omega)
                                        · exact hit q q0 q1
                                      · rw [hz, hz, hz, hz]
                                        exact hlan q q0 q1
                                      · rw [hz]; rfl
                                      · rw [hz]; rfl
                                      · rw [hz]; rfl
                                      · rw [hz]; rfl
                                      · rw [hz, hz]; rfl
                                      · rw [hz, hz]
                                        exact hfa
                                    · have e : (fun z => if 40 * b + j ≤ z ∧ z < 40 * b + j + 0 then μ 99 (40 * a + i + (z - (40 * b + j))) else μ 99 z) = μ 99 := by
                                        funext z
                                        rw [if_neg (by omega)]
                                      rw [e, jm_uc_id]
                                · first
                                  | (exfalso; omega)
                                  | skip
                                    refine jv_iconst rfl rfl ?_
                                    refine jv_goto rfl rfl ?_
                                    refine jv_istoreK (L2 := [some (.inr (.inr 94)), some (.inl a), some (.inl i), some (.inl b), some (.inl j), some (.inl n), some (.inl 1), none, none]) rfl rfl rfl ?_
                                    refine jv_iconst rfl rfl ?_
                                    refine jv_istoreK (L2 := [some (.inr (.inr 94)), some (.inl a), some (.inl i), some (.inl b), some (.inl j), some (.inl n), some (.inl 1), some (.inl 0), none]) rfl rfl rfl ?_
                                    refine mo_copy_b (by omega) (by omega) (by omega) (by omega) (by omega) (by omega) (μ0 := μ) (fun μz eμz => ?_) 101 0 _ μ (by omega) (by omega) (by omega) ?_
                                    · have hz : ∀ z, μz z = jm_uc (jm_uc (jm_uc (jm_uc μ 2 (jm_cpy (μ 2) (μ 2) (40 * a + i) (40 * b + j) n)) 0 (jm_u1 (μ 0) 11 0)) 99 (jm_cpy (μ 99) (μ 99) (40 * a + i) (40 * b + j) n)) 94 (jm_u1 (μ 94) 10 0) z := by
                                        intro z
                                        rw [eμz, ecb, eca]
                                        rfl
                                      refine ⟨rfl, jI_rowsC hI ⟨fun q q0 q1 => ?_, fun q q0 q1 => ?_⟩ (fun z a1 b1 c1 d d2 d3 d4 d5 => by rw [hz, jm_off1 d2, jm_off1 d5, jm_off1 a1, jm_off1 b1]) ?_ ?_ ?_ ?_ ?_ ?_⟩
                                      · rw [hz, hz]
                                        show jm_cpy (μ 2) (μ 2) (40 * a + i) (40 * b + j) n q = jm_cpy (μ 99) (μ 99) (40 * a + i) (40 * b + j) n q
                                        unfold jm_cpy
                                        split
                                        · exact hit _ (by omega) (by omega)
                                        · exact hit q q0 q1
                                      · rw [hz, hz, hz, hz]
                                        exact hlan q q0 q1
                                      · rw [hz]; rfl
                                      · rw [hz]; rfl
                                      · rw [hz]; rfl
                                      · rw [hz]; rfl
                                      · rw [hz, hz]; rfl
                                      · rw [hz, hz]
                                        exact hfa
                                    · have e : (fun z => if 40 * b + j + n - 0 ≤ z ∧ z < 40 * b + j + n then μ 99 (40 * a + i + (z - (40 * b + j))) else μ 99 z) = μ 99 := by
                                        funext z
                                        rw [if_neg (by omega)]
                                      rw [e, jm_uc_id]
                            · first
                              | (exfalso; omega)
                              | skip
                                show jV _ _ jm_p_X10_copy _ 46 [some (.inr (.inr 94)), some (.inl a), some (.inl i), some (.inl b), some (.inl j), some (.inl n), none, none, none] [.inl 0] μ
                                refine jv_if_neF rfl rfl (by decide) ?_
                                refine jv_aload_n rfl rfl rfl (by decide) ?_
                                refine jv_iconst rfl rfl ?_
                                refine jv_callV1 rfl rfl rfl rfl ⟨by decide, rfl⟩ (Nat.le_of_ble_eq_true rfl) (mo_find (by omega) (fun ν49 eν49 => ?_))
                                show jV _ _ jm_p_X10_copy _ 50 [some (.inr (.inr 94)), some (.inl a), some (.inl i), some (.inl b), some (.inl j), some (.inl n), none, none, none] [.inl (-1000010 - 2)] ν49
                                refine jv_ireturn rfl (Or.inl rfl) ?_
                                exact ⟨jv_one (by omega), by exfalso; omega⟩
                        · first
                          | (exfalso; omega)
                          | skip
                            show jV _ _ jm_p_X10_copy _ 40 [some (.inr (.inr 94)), some (.inl a), some (.inl i), some (.inl b), some (.inl j), some (.inl n), none, none, none] [.inl 0] μ
                            refine jv_if_eqT rfl rfl (by decide) ?_
                            refine jv_aload_n rfl rfl rfl (by decide) ?_
                            refine jv_iconst rfl rfl ?_
                            refine jv_callV1 rfl rfl rfl rfl ⟨by decide, rfl⟩ (Nat.le_of_ble_eq_true rfl) (mo_find (by omega) (fun ν49_1 eν49_1 => ?_))
                            show jV _ _ jm_p_X10_copy _ 50 [some (.inr (.inr 94)), some (.inl a), some (.inl i), some (.inl b), some (.inl j), some (.inl n), none, none, none] [.inl (-1000010 - 2)] ν49_1
                            refine jv_ireturn rfl (Or.inl rfl) ?_
                            exact ⟨jv_one (by omega), by exfalso; omega⟩
                    · first
                      | (exfalso; omega)
                      | skip
                        refine jv_aload_n rfl rfl rfl (by decide) ?_
                        refine jv_iconst rfl rfl ?_
                        refine jv_callV1 rfl rfl rfl rfl ⟨by decide, rfl⟩ (Nat.le_of_ble_eq_true rfl) (mo_find (by omega) (fun ν33 eν33 => ?_))
                        show jV _ _ jm_p_X10_copy _ 34 [some (.inr (.inr 94)), some (.inl a), some (.inl i), some (.inl b), some (.inl j), some (.inl n), none, none, none] [.inl (-1000010 - 5)] ν33
                        refine jv_ireturn rfl (Or.inl rfl) ?_
                        exact ⟨jv_one (by omega), by exfalso; omega⟩
                · first
                  | (exfalso; omega)
                  | skip
                    refine jv_aload_n rfl rfl rfl (by decide) ?_
                    refine jv_iconst rfl rfl ?_
                    refine jv_callV1 rfl rfl rfl rfl ⟨by decide, rfl⟩ (Nat.le_of_ble_eq_true rfl) (mo_find (by omega) (fun ν20_1 eν20_1 => ?_))
                    show jV _ _ jm_p_X10_copy _ 21 [some (.inr (.inr 94)), some (.inl a), some (.inl i), some (.inl b), some (.inl j), some (.inl n), none, none, none] [.inl (-1000010 - 1)] ν20_1
                    refine jv_ireturn rfl (Or.inl rfl) ?_
                    exact ⟨jv_one (by omega), by exfalso; omega⟩
        · first
          | (exfalso; omega)
          | skip
            show jV _ _ jm_p_X10_copy _ 5 [some (.inr (.inr 94)), some (.inl a), some (.inl i), some (.inl b), some (.inl j), some (.inl n), none, none, none] [.inl 0] μ
            refine jv_if_neF rfl rfl (by decide) ?_
            refine jv_ldc rfl rfl ?_
            refine jv_ireturn rfl (Or.inl rfl) ?_
            exact ⟨jv_one (by omega), hI⟩
    · first
      | (exfalso; omega)
      | skip
        show jV _ _ jm_p_X10_copy _ 2 [some (.inr (.inr 94)), some (.inl a), some (.inl i), some (.inl b), some (.inl j), some (.inl n), none, none, none] [.inl 0] μ
        refine jv_if_eqT rfl rfl (by decide) ?_
        refine jv_ldc rfl rfl ?_
        refine jv_ireturn rfl (Or.inl rfl) ?_
        exact ⟨jv_one (by omega), hI⟩
  · show jV _ _ jm_p_X9_copy _ 2 [some (.inr (.inr 0)), some (.inl a), some (.inl i), some (.inl b), some (.inl j), some (.inl n)] [.inl 0] μ
    refine jv_if_neF rfl rfl (by decide) ?_
    refine jv_iload_n rfl rfl rfl ?_
    refine jv_callS1 rfl rfl rfl (Nat.le_of_ble_eq_true rfl) (cl_noRow (fun b4 => ?_) (fun b4 => ?_))
    · show jV _ _ jm_p_X9_copy _ 5 [some (.inr (.inr 0)), some (.inl a), some (.inl i), some (.inl b), some (.inl j), some (.inl n)] [.inl 1] μ
      refine jv_if_eqF rfl rfl (by decide) ?_
      refine jv_ldc rfl rfl ?_
      refine jv_ireturn rfl (Or.inl rfl) ?_
      refine ⟨_, rfl, ?_⟩
      skip
      refine jv_enter (d := 199) jm_p_X10_copy [some (.inr (.inr 94)), some (.inl a), some (.inl i), some (.inl b), some (.inl j), some (.inl n), none, none, none] rfl rfl rfl (Nat.le_of_ble_eq_true rfl) rfl rfl ?_
      refine jv_iload_n rfl rfl rfl ?_
      refine jv_callS1 rfl rfl rfl (Nat.le_of_ble_eq_true rfl) (mo_isRow (fun b1 => ?_) (fun b1 => ?_))
      · first
        | (exfalso; omega)
        | skip
          show jV _ _ jm_p_X10_copy _ 2 [some (.inr (.inr 94)), some (.inl a), some (.inl i), some (.inl b), some (.inl j), some (.inl n), none, none, none] [.inl 1] μ
          refine jv_if_eqF rfl rfl (by decide) ?_
          refine jv_iload_n rfl rfl rfl ?_
          refine jv_callS1 rfl rfl rfl (Nat.le_of_ble_eq_true rfl) (mo_isRow (fun b4 => ?_) (fun b4 => ?_))
          · first
            | (exfalso; omega)
            | skip
              show jV _ _ jm_p_X10_copy _ 5 [some (.inr (.inr 94)), some (.inl a), some (.inl i), some (.inl b), some (.inl j), some (.inl n), none, none, none] [.inl 1] μ
              refine jv_if_neT rfl rfl (by decide) ?_
              refine jv_aload_n rfl rfl rfl (by decide) ?_
              refine jv_getr (w := 98) rfl rfl rfl ⟨by decide, rfl⟩ rfl rfl ?_
              refine jv_iload_n rfl rfl rfl ?_
              refine jv_iaload rfl rfl (by decide) rfl ⟨by omega, by omega⟩ ?_
              refine jv_if_lt rfl rfl rfl (fun c12 => ?_) (fun c12 => ?_)
              · first
                | (exfalso; omega)
                | skip
                  refine jv_aload_n rfl rfl rfl (by decide) ?_
                  refine jv_iconst rfl rfl ?_
                  refine jv_callV1 rfl rfl rfl rfl ⟨by decide, rfl⟩ (Nat.le_of_ble_eq_true rfl) (mo_find (by omega) (fun ν20 eν20 => ?_))
                  show jV _ _ jm_p_X10_copy _ 21 [some (.inr (.inr 94)), some (.inl a), some (.inl i), some (.inl b), some (.inl j), some (.inl n), none, none, none] [.inl (-1000010 - 1)] ν20
                  refine jv_ireturn rfl (Or.inl rfl) ?_
                  exact ⟨jv_one (by omega), by exfalso; omega⟩
              · first
                | (exfalso; omega)
                | skip
                  refine jv_aload_n rfl rfl rfl (by decide) ?_
                  refine jv_getr (w := 98) rfl rfl rfl ⟨by decide, rfl⟩ rfl rfl ?_
                  refine jv_iload_n rfl rfl rfl ?_
                  refine jv_iaload rfl rfl (by decide) rfl ⟨by omega, by omega⟩ ?_
                  refine jv_if_ge rfl rfl rfl (fun c17 => ?_) (fun c17 => ?_)
                  · first
                    | (exfalso; omega)
                    | skip
                      refine jv_aload_n rfl rfl rfl (by decide) ?_
                      refine jv_getr (w := 97) rfl rfl rfl ⟨by decide, rfl⟩ rfl rfl ?_
                      refine jv_iload_n rfl rfl rfl ?_
                      refine jv_iaload rfl rfl (by decide) rfl ⟨by omega, by omega⟩ ?_
                      refine jv_aload_n rfl rfl rfl (by decide) ?_
                      refine jv_getr (w := 97) rfl rfl rfl ⟨by decide, rfl⟩ rfl rfl ?_
                      refine jv_iload_n rfl rfl rfl ?_
                      refine jv_iaload rfl rfl (by decide) rfl ⟨by omega, by omega⟩ ?_
                      refine jv_icmp_eq rfl rfl rfl (fun c30 => ?_) (fun c30 => ?_)
                      · first
                        | (exfalso; omega)
                        | skip
                          refine jv_aload_n rfl rfl rfl (by decide) ?_
                          refine jv_iload_n rfl rfl rfl ?_
                          refine jv_iload_n rfl rfl rfl ?_
                          refine jv_iload rfl rfl rfl ?_
                          refine jv_callV3 rfl rfl rfl rfl ⟨by decide, rfl⟩ (Nat.le_of_ble_eq_true rfl) (mo_isSpan (by omega) (by omega) (by omega) (by omega) (fun b39 => ?_) (fun b39 => ?_))
                          · first
                            | (exfalso; omega)
                            | skip
                              show jV _ _ jm_p_X10_copy _ 40 [some (.inr (.inr 94)), some (.inl a), some (.inl i), some (.inl b), some (.inl j), some (.inl n), none, none, none] [.inl 1] μ
                              refine jv_if_eqF rfl rfl (by decide) ?_
                              refine jv_aload_n rfl rfl rfl (by decide) ?_
                              refine jv_iload_n rfl rfl rfl ?_
                              refine jv_iload rfl rfl rfl ?_
                              refine jv_iload rfl rfl rfl ?_
                              refine jv_callV3 rfl rfl rfl rfl ⟨by decide, rfl⟩ (Nat.le_of_ble_eq_true rfl) (mo_isSpan (by omega) (by omega) (by omega) (by omega) (fun b45 => ?_) (fun b45 => ?_))
                              · first
                                | (exfalso; omega)
                                | skip
                                  show jV _ _ jm_p_X10_copy _ 46 [some (.inr (.inr 94)), some (.inl a), some (.inl i), some (.inl b), some (.inl j), some (.inl n), none, none, none] [.inl 1] μ
                                  refine jv_if_neT rfl rfl (by decide) ?_
                                  refine jv_iload_n rfl rfl rfl ?_
                                  refine jv_iload rfl rfl rfl ?_
                                  refine jv_icmp_ge rfl rfl rfl (fun c53 => ?_) (fun c53 => ?_)
                                  · first
                                    | (exfalso; omega)
                                    | skip
                                      refine jv_iconst rfl rfl ?_
                                      refine jv_istoreK (L2 := [some (.inr (.inr 94)), some (.inl a), some (.inl i), some (.inl b), some (.inl j), some (.inl n), some (.inl 0), none, none]) rfl rfl rfl ?_
                                      refine jv_iconst rfl rfl ?_
                                      refine jv_istoreK (L2 := [some (.inr (.inr 94)), some (.inl a), some (.inl i), some (.inl b), some (.inl j), some (.inl n), some (.inl 0), some (.inl 0), none]) rfl rfl rfl ?_
                                      refine mo_copy_f (by omega) (by omega) (by omega) (by omega) (by omega) (by omega) (μ0 := μ) (fun μz eμz => ?_) 101 0 _ μ (by omega) (by omega) (by omega) ?_
                                      · have hz : ∀ z, μz z = jm_uc (jm_uc (jm_uc (jm_uc μ 2 (jm_cpy (μ 2) (μ 2) (40 * a + i) (40 * b + j) n)) 0 (jm_u1 (μ 0) 11 0)) 99 (jm_cpy (μ 99) (μ 99) (40 * a + i) (40 * b + j) n)) 94 (jm_u1 (μ 94) 10 0) z := by
                                          intro z
                                          rw [eμz, ecb, eca]
                                          rfl
                                        refine ⟨rfl, jI_rowsC hI ⟨fun q q0 q1 => ?_, fun q q0 q1 => ?_⟩ (fun z a1 b1 c1 d d2 d3 d4 d5 => by rw [hz, jm_off1 d2, jm_off1 d5, jm_off1 a1, jm_off1 b1]) ?_ ?_ ?_ ?_ ?_ ?_⟩
                                        · rw [hz, hz]
                                          show jm_cpy (μ 2) (μ 2) (40 * a + i) (40 * b + j) n q = jm_cpy (μ 99) (μ 99) (40 * a + i) (40 * b + j) n q
                                          unfold jm_cpy
                                          split
                                          · exact hit _ (by omega) (by omega)
                                          · exact hit q q0 q1
                                        · rw [hz, hz, hz, hz]
                                          exact hlan q q0 q1
                                        · rw [hz]; rfl
                                        · rw [hz]; rfl
                                        · rw [hz]; rfl
                                        · rw [hz]; rfl
                                        · rw [hz, hz]; rfl
                                        · rw [hz, hz]
                                          exact hfa
                                      · have e : (fun z => if 40 * b + j ≤ z ∧ z < 40 * b + j + 0 then μ 99 (40 * a + i + (z - (40 * b + j))) else μ 99 z) = μ 99 := by
                                          funext z
                                          rw [if_neg (by omega)]
                                        rw [e, jm_uc_id]
                                  · first
                                    | (exfalso; omega)
                                    | skip
                                      refine jv_iconst rfl rfl ?_
                                      refine jv_goto rfl rfl ?_
                                      refine jv_istoreK (L2 := [some (.inr (.inr 94)), some (.inl a), some (.inl i), some (.inl b), some (.inl j), some (.inl n), some (.inl 1), none, none]) rfl rfl rfl ?_
                                      refine jv_iconst rfl rfl ?_
                                      refine jv_istoreK (L2 := [some (.inr (.inr 94)), some (.inl a), some (.inl i), some (.inl b), some (.inl j), some (.inl n), some (.inl 1), some (.inl 0), none]) rfl rfl rfl ?_
                                      refine mo_copy_b (by omega) (by omega) (by omega) (by omega) (by omega) (by omega) (μ0 := μ) (fun μz eμz => ?_) 101 0 _ μ (by omega) (by omega) (by omega) ?_
                                      · have hz : ∀ z, μz z = jm_uc (jm_uc (jm_uc (jm_uc μ 2 (jm_cpy (μ 2) (μ 2) (40 * a + i) (40 * b + j) n)) 0 (jm_u1 (μ 0) 11 0)) 99 (jm_cpy (μ 99) (μ 99) (40 * a + i) (40 * b + j) n)) 94 (jm_u1 (μ 94) 10 0) z := by
                                          intro z
                                          rw [eμz, ecb, eca]
                                          rfl
                                        refine ⟨rfl, jI_rowsC hI ⟨fun q q0 q1 => ?_, fun q q0 q1 => ?_⟩ (fun z a1 b1 c1 d d2 d3 d4 d5 => by rw [hz, jm_off1 d2, jm_off1 d5, jm_off1 a1, jm_off1 b1]) ?_ ?_ ?_ ?_ ?_ ?_⟩
                                        · rw [hz, hz]
                                          show jm_cpy (μ 2) (μ 2) (40 * a + i) (40 * b + j) n q = jm_cpy (μ 99) (μ 99) (40 * a + i) (40 * b + j) n q
                                          unfold jm_cpy
                                          split
                                          · exact hit _ (by omega) (by omega)
                                          · exact hit q q0 q1
                                        · rw [hz, hz, hz, hz]
                                          exact hlan q q0 q1
                                        · rw [hz]; rfl
                                        · rw [hz]; rfl
                                        · rw [hz]; rfl
                                        · rw [hz]; rfl
                                        · rw [hz, hz]; rfl
                                        · rw [hz, hz]
                                          exact hfa
                                      · have e : (fun z => if 40 * b + j + n - 0 ≤ z ∧ z < 40 * b + j + n then μ 99 (40 * a + i + (z - (40 * b + j))) else μ 99 z) = μ 99 := by
                                          funext z
                                          rw [if_neg (by omega)]
                                        rw [e, jm_uc_id]
                              · first
                                | (exfalso; omega)
                                | skip
                                  show jV _ _ jm_p_X10_copy _ 46 [some (.inr (.inr 94)), some (.inl a), some (.inl i), some (.inl b), some (.inl j), some (.inl n), none, none, none] [.inl 0] μ
                                  refine jv_if_neF rfl rfl (by decide) ?_
                                  refine jv_aload_n rfl rfl rfl (by decide) ?_
                                  refine jv_iconst rfl rfl ?_
                                  refine jv_callV1 rfl rfl rfl rfl ⟨by decide, rfl⟩ (Nat.le_of_ble_eq_true rfl) (mo_find (by omega) (fun ν49 eν49 => ?_))
                                  show jV _ _ jm_p_X10_copy _ 50 [some (.inr (.inr 94)), some (.inl a), some (.inl i), some (.inl b), some (.inl j), some (.inl n), none, none, none] [.inl (-1000010 - 2)] ν49
                                  refine jv_ireturn rfl (Or.inl rfl) ?_
                                  exact ⟨jv_one (by omega), by exfalso; omega⟩
                          · first
                            | (exfalso; omega)
                            | skip
                              show jV _ _ jm_p_X10_copy _ 40 [some (.inr (.inr 94)), some (.inl a), some (.inl i), some (.inl b), some (.inl j), some (.inl n), none, none, none] [.inl 0] μ
                              refine jv_if_eqT rfl rfl (by decide) ?_
                              refine jv_aload_n rfl rfl rfl (by decide) ?_
                              refine jv_iconst rfl rfl ?_
                              refine jv_callV1 rfl rfl rfl rfl ⟨by decide, rfl⟩ (Nat.le_of_ble_eq_true rfl) (mo_find (by omega) (fun ν49_1 eν49_1 => ?_))
                              show jV _ _ jm_p_X10_copy _ 50 [some (.inr (.inr 94)), some (.inl a), some (.inl i), some (.inl b), some (.inl j), some (.inl n), none, none, none] [.inl (-1000010 - 2)] ν49_1
                              refine jv_ireturn rfl (Or.inl rfl) ?_
                              exact ⟨jv_one (by omega), by exfalso; omega⟩
                      · first
                        | (exfalso; omega)
                        | skip
                          refine jv_aload_n rfl rfl rfl (by decide) ?_
                          refine jv_iconst rfl rfl ?_
                          refine jv_callV1 rfl rfl rfl rfl ⟨by decide, rfl⟩ (Nat.le_of_ble_eq_true rfl) (mo_find (by omega) (fun ν33 eν33 => ?_))
                          show jV _ _ jm_p_X10_copy _ 34 [some (.inr (.inr 94)), some (.inl a), some (.inl i), some (.inl b), some (.inl j), some (.inl n), none, none, none] [.inl (-1000010 - 5)] ν33
                          refine jv_ireturn rfl (Or.inl rfl) ?_
                          exact ⟨jv_one (by omega), by exfalso; omega⟩
                  · first
                    | (exfalso; omega)
                    | skip
                      refine jv_aload_n rfl rfl rfl (by decide) ?_
                      refine jv_iconst rfl rfl ?_
                      refine jv_callV1 rfl rfl rfl rfl ⟨by decide, rfl⟩ (Nat.le_of_ble_eq_true rfl) (mo_find (by omega) (fun ν20_1 eν20_1 => ?_))
                      show jV _ _ jm_p_X10_copy _ 21 [some (.inr (.inr 94)), some (.inl a), some (.inl i), some (.inl b), some (.inl j), some (.inl n), none, none, none] [.inl (-1000010 - 1)] ν20_1
                      refine jv_ireturn rfl (Or.inl rfl) ?_
                      exact ⟨jv_one (by omega), by exfalso; omega⟩
          · first
            | (exfalso; omega)
            | skip
              show jV _ _ jm_p_X10_copy _ 5 [some (.inr (.inr 94)), some (.inl a), some (.inl i), some (.inl b), some (.inl j), some (.inl n), none, none, none] [.inl 0] μ
              refine jv_if_neF rfl rfl (by decide) ?_
              refine jv_ldc rfl rfl ?_
              refine jv_ireturn rfl (Or.inl rfl) ?_
              exact ⟨jv_one (by omega), hI⟩
      · first
        | (exfalso; omega)
        | skip
          show jV _ _ jm_p_X10_copy _ 2 [some (.inr (.inr 94)), some (.inl a), some (.inl i), some (.inl b), some (.inl j), some (.inl n), none, none, none] [.inl 0] μ
          refine jv_if_eqT rfl rfl (by decide) ?_
          refine jv_ldc rfl rfl ?_
          refine jv_ireturn rfl (Or.inl rfl) ?_
          exact ⟨jv_one (by omega), hI⟩
    · show jV _ _ jm_p_X9_copy _ 5 [some (.inr (.inr 0)), some (.inl a), some (.inl i), some (.inl b), some (.inl j), some (.inl n)] [.inl 0] μ
      refine jv_if_eqT rfl rfl (by decide) ?_
      refine jv_aload_n rfl rfl rfl (by decide) ?_
      refine jv_getr (w := 1) rfl rfl rfl ⟨by decide, rfl⟩ rfl rfl ?_
      refine jv_iload_n rfl rfl rfl ?_
      refine jv_callV1 rfl rfl rfl rfl ⟨by decide, rfl⟩ (Nat.le_of_ble_eq_true rfl) (cl_isMissing (by omega) (fun b11 => ?_) (fun b11 => ?_))
      · show jV _ _ jm_p_X9_copy _ 12 [some (.inr (.inr 0)), some (.inl a), some (.inl i), some (.inl b), some (.inl j), some (.inl n)] [.inl 1] μ
        refine jv_if_neT rfl rfl (by decide) ?_
        refine jv_aload_n rfl rfl rfl (by decide) ?_
        refine jv_iconst rfl rfl ?_
        refine jv_callV1 rfl rfl rfl rfl ⟨by decide, rfl⟩ (Nat.le_of_ble_eq_true rfl) (cl_found (by omega) (fun μ20 eμ20 => ?_))
        show jV _ _ jm_p_X9_copy _ 21 [some (.inr (.inr 0)), some (.inl a), some (.inl i), some (.inl b), some (.inl j), some (.inl n)] [.inl (-1000010 - 1)] μ20
        refine jv_ireturn rfl (Or.inl rfl) ?_
        refine ⟨_, rfl, ?_⟩
        have f97a : μ20 97 a = μ 97 a := by rw [eμ20]; rfl
        have f97b : μ20 97 b = μ 97 b := by rw [eμ20]; rfl
        have f98a : μ20 98 a = μ 98 a := by rw [eμ20]; rfl
        have f98b : μ20 98 b = μ 98 b := by rw [eμ20]; rfl
        refine jv_enter (d := 199) jm_p_X10_copy [some (.inr (.inr 94)), some (.inl a), some (.inl i), some (.inl b), some (.inl j), some (.inl n), none, none, none] rfl rfl rfl (Nat.le_of_ble_eq_true rfl) rfl rfl ?_
        refine jv_iload_n rfl rfl rfl ?_
        refine jv_callS1 rfl rfl rfl (Nat.le_of_ble_eq_true rfl) (mo_isRow (fun b1 => ?_) (fun b1 => ?_))
        · first
          | (exfalso; omega)
          | skip
            show jV _ _ jm_p_X10_copy _ 2 [some (.inr (.inr 94)), some (.inl a), some (.inl i), some (.inl b), some (.inl j), some (.inl n), none, none, none] [.inl 1] μ20
            refine jv_if_eqF rfl rfl (by decide) ?_
            refine jv_iload_n rfl rfl rfl ?_
            refine jv_callS1 rfl rfl rfl (Nat.le_of_ble_eq_true rfl) (mo_isRow (fun b4 => ?_) (fun b4 => ?_))
            · first
              | (exfalso; omega)
              | skip
                show jV _ _ jm_p_X10_copy _ 5 [some (.inr (.inr 94)), some (.inl a), some (.inl i), some (.inl b), some (.inl j), some (.inl n), none, none, none] [.inl 1] μ20
                refine jv_if_neT rfl rfl (by decide) ?_
                refine jv_aload_n rfl rfl rfl (by decide) ?_
                refine jv_getr (w := 98) rfl rfl rfl ⟨by decide, rfl⟩ rfl rfl ?_
                refine jv_iload_n rfl rfl rfl ?_
                refine jv_iaload rfl rfl (by decide) rfl ⟨by omega, by omega⟩ ?_
                refine jv_if_lt rfl rfl rfl (fun c12 => ?_) (fun c12 => ?_)
                · first
                  | (exfalso; omega)
                  | skip
                    refine jv_aload_n rfl rfl rfl (by decide) ?_
                    refine jv_iconst rfl rfl ?_
                    refine jv_callV1 rfl rfl rfl rfl ⟨by decide, rfl⟩ (Nat.le_of_ble_eq_true rfl) (mo_find (by omega) (fun ν20 eν20 => ?_))
                    show jV _ _ jm_p_X10_copy _ 21 [some (.inr (.inr 94)), some (.inl a), some (.inl i), some (.inl b), some (.inl j), some (.inl n), none, none, none] [.inl (-1000010 - 1)] ν20
                    refine jv_ireturn rfl (Or.inl rfl) ?_
                    exact ⟨jv_one (by omega), jI_find hI eμ20 eν20⟩
                · first
                  | (exfalso; omega)
                  | skip
                    refine jv_aload_n rfl rfl rfl (by decide) ?_
                    refine jv_getr (w := 98) rfl rfl rfl ⟨by decide, rfl⟩ rfl rfl ?_
                    refine jv_iload_n rfl rfl rfl ?_
                    refine jv_iaload rfl rfl (by decide) rfl ⟨by omega, by omega⟩ ?_
                    refine jv_if_ge rfl rfl rfl (fun c17 => ?_) (fun c17 => ?_)
                    · first
                      | (exfalso; omega)
                      | skip
                        refine jv_aload_n rfl rfl rfl (by decide) ?_
                        refine jv_getr (w := 97) rfl rfl rfl ⟨by decide, rfl⟩ rfl rfl ?_
                        refine jv_iload_n rfl rfl rfl ?_
                        refine jv_iaload rfl rfl (by decide) rfl ⟨by omega, by omega⟩ ?_
                        refine jv_aload_n rfl rfl rfl (by decide) ?_
                        refine jv_getr (w := 97) rfl rfl rfl ⟨by decide, rfl⟩ rfl rfl ?_
                        refine jv_iload_n rfl rfl rfl ?_
                        refine jv_iaload rfl rfl (by decide) rfl ⟨by omega, by omega⟩ ?_
                        refine jv_icmp_eq rfl rfl rfl (fun c30 => ?_) (fun c30 => ?_)
                        · first
                          | (exfalso; omega)
                          | skip
                            refine jv_aload_n rfl rfl rfl (by decide) ?_
                            refine jv_iload_n rfl rfl rfl ?_
                            refine jv_iload_n rfl rfl rfl ?_
                            refine jv_iload rfl rfl rfl ?_
                            refine jv_callV3 rfl rfl rfl rfl ⟨by decide, rfl⟩ (Nat.le_of_ble_eq_true rfl) (mo_isSpan (by omega) (by omega) (by omega) (by omega) (fun b39 => ?_) (fun b39 => ?_))
                            · first
                              | (exfalso; omega)
                              | skip
                                show jV _ _ jm_p_X10_copy _ 40 [some (.inr (.inr 94)), some (.inl a), some (.inl i), some (.inl b), some (.inl j), some (.inl n), none, none, none] [.inl 1] μ20
                                refine jv_if_eqF rfl rfl (by decide) ?_
                                refine jv_aload_n rfl rfl rfl (by decide) ?_
                                refine jv_iload_n rfl rfl rfl ?_
                                refine jv_iload rfl rfl rfl ?_
                                refine jv_iload rfl rfl rfl ?_
                                refine jv_callV3 rfl rfl rfl rfl ⟨by decide, rfl⟩ (Nat.le_of_ble_eq_true rfl) (mo_isSpan (by omega) (by omega) (by omega) (by omega) (fun b45 => ?_) (fun b45 => ?_))
                                · first
                                  | (exfalso; omega)
                                  | skip
                                    show jV _ _ jm_p_X10_copy _ 46 [some (.inr (.inr 94)), some (.inl a), some (.inl i), some (.inl b), some (.inl j), some (.inl n), none, none, none] [.inl 1] μ20
                                    refine jv_if_neT rfl rfl (by decide) ?_
                                    refine jv_iload_n rfl rfl rfl ?_
                                    refine jv_iload rfl rfl rfl ?_
                                    refine jv_icmp_ge rfl rfl rfl (fun c53 => ?_) (fun c53 => ?_)
                                    · first
                                      | (exfalso; omega)
                                      | skip
                                        refine jv_iconst rfl rfl ?_
                                        refine jv_istoreK (L2 := [some (.inr (.inr 94)), some (.inl a), some (.inl i), some (.inl b), some (.inl j), some (.inl n), some (.inl 0), none, none]) rfl rfl rfl ?_
                                        refine jv_iconst rfl rfl ?_
                                        refine jv_istoreK (L2 := [some (.inr (.inr 94)), some (.inl a), some (.inl i), some (.inl b), some (.inl j), some (.inl n), some (.inl 0), some (.inl 0), none]) rfl rfl rfl ?_
                                        refine mo_copy_f (by omega) (by omega) (by omega) (by omega) (by omega) (by omega) (μ0 := μ20) (fun μz eμz => ?_) 101 0 _ μ20 (by omega) (by omega) (by omega) ?_
                                        · have hz : ∀ z, μz z = jm_uc (jm_uc (jm_uc (jm_uc μ 2 (jm_cpy (μ 2) (μ 2) (40 * a + i) (40 * b + j) n)) 0 (jm_u1 (μ 0) 11 0)) 99 (jm_cpy (μ 99) (μ 99) (40 * a + i) (40 * b + j) n)) 94 (jm_u1 (μ 94) 10 0) z := by
                                            intro z
                                            rw [eμz, ecb, eca]
                                            rfl
                                          refine ⟨rfl, jI_rowsC hI ⟨fun q q0 q1 => ?_, fun q q0 q1 => ?_⟩ (fun z a1 b1 c1 d d2 d3 d4 d5 => by rw [hz, jm_off1 d2, jm_off1 d5, jm_off1 a1, jm_off1 b1]) ?_ ?_ ?_ ?_ ?_ ?_⟩
                                          · rw [hz, hz]
                                            show jm_cpy (μ 2) (μ 2) (40 * a + i) (40 * b + j) n q = jm_cpy (μ 99) (μ 99) (40 * a + i) (40 * b + j) n q
                                            unfold jm_cpy
                                            split
                                            · exact hit _ (by omega) (by omega)
                                            · exact hit q q0 q1
                                          · rw [hz, hz, hz, hz]
                                            exact hlan q q0 q1
                                          · rw [hz]; rfl
                                          · rw [hz]; rfl
                                          · rw [hz]; rfl
                                          · rw [hz]; rfl
                                          · rw [hz, hz]; rfl
                                          · rw [hz, hz]
                                            exact hfa
                                        · have e : (fun z => if 40 * b + j ≤ z ∧ z < 40 * b + j + 0 then μ20 99 (40 * a + i + (z - (40 * b + j))) else μ20 99 z) = μ20 99 := by
                                            funext z
                                            rw [if_neg (by omega)]
                                          rw [e, jm_uc_id]
                                    · first
                                      | (exfalso; omega)
                                      | skip
                                        refine jv_iconst rfl rfl ?_
                                        refine jv_goto rfl rfl ?_
                                        refine jv_istoreK (L2 := [some (.inr (.inr 94)), some (.inl a), some (.inl i), some (.inl b), some (.inl j), some (.inl n), some (.inl 1), none, none]) rfl rfl rfl ?_
                                        refine jv_iconst rfl rfl ?_
                                        refine jv_istoreK (L2 := [some (.inr (.inr 94)), some (.inl a), some (.inl i), some (.inl b), some (.inl j), some (.inl n), some (.inl 1), some (.inl 0), none]) rfl rfl rfl ?_
                                        refine mo_copy_b (by omega) (by omega) (by omega) (by omega) (by omega) (by omega) (μ0 := μ20) (fun μz eμz => ?_) 101 0 _ μ20 (by omega) (by omega) (by omega) ?_
                                        · have hz : ∀ z, μz z = jm_uc (jm_uc (jm_uc (jm_uc μ 2 (jm_cpy (μ 2) (μ 2) (40 * a + i) (40 * b + j) n)) 0 (jm_u1 (μ 0) 11 0)) 99 (jm_cpy (μ 99) (μ 99) (40 * a + i) (40 * b + j) n)) 94 (jm_u1 (μ 94) 10 0) z := by
                                            intro z
                                            rw [eμz, ecb, eca]
                                            rfl
                                          refine ⟨rfl, jI_rowsC hI ⟨fun q q0 q1 => ?_, fun q q0 q1 => ?_⟩ (fun z a1 b1 c1 d d2 d3 d4 d5 => by rw [hz, jm_off1 d2, jm_off1 d5, jm_off1 a1, jm_off1 b1]) ?_ ?_ ?_ ?_ ?_ ?_⟩
                                          · rw [hz, hz]
                                            show jm_cpy (μ 2) (μ 2) (40 * a + i) (40 * b + j) n q = jm_cpy (μ 99) (μ 99) (40 * a + i) (40 * b + j) n q
                                            unfold jm_cpy
                                            split
                                            · exact hit _ (by omega) (by omega)
                                            · exact hit q q0 q1
                                          · rw [hz, hz, hz, hz]
                                            exact hlan q q0 q1
                                          · rw [hz]; rfl
                                          · rw [hz]; rfl
                                          · rw [hz]; rfl
                                          · rw [hz]; rfl
                                          · rw [hz, hz]; rfl
                                          · rw [hz, hz]
                                            exact hfa
                                        · have e : (fun z => if 40 * b + j + n - 0 ≤ z ∧ z < 40 * b + j + n then μ20 99 (40 * a + i + (z - (40 * b + j))) else μ20 99 z) = μ20 99 := by
                                            funext z
                                            rw [if_neg (by omega)]
                                          rw [e, jm_uc_id]
                                · first
                                  | (exfalso; omega)
                                  | skip
                                    show jV _ _ jm_p_X10_copy _ 46 [some (.inr (.inr 94)), some (.inl a), some (.inl i), some (.inl b), some (.inl j), some (.inl n), none, none, none] [.inl 0] μ20
                                    refine jv_if_neF rfl rfl (by decide) ?_
                                    refine jv_aload_n rfl rfl rfl (by decide) ?_
                                    refine jv_iconst rfl rfl ?_
                                    refine jv_callV1 rfl rfl rfl rfl ⟨by decide, rfl⟩ (Nat.le_of_ble_eq_true rfl) (mo_find (by omega) (fun ν49 eν49 => ?_))
                                    show jV _ _ jm_p_X10_copy _ 50 [some (.inr (.inr 94)), some (.inl a), some (.inl i), some (.inl b), some (.inl j), some (.inl n), none, none, none] [.inl (-1000010 - 2)] ν49
                                    refine jv_ireturn rfl (Or.inl rfl) ?_
                                    exact ⟨jv_one (by omega), jI_find hI eμ20 eν49⟩
                            · first
                              | (exfalso; omega)
                              | skip
                                show jV _ _ jm_p_X10_copy _ 40 [some (.inr (.inr 94)), some (.inl a), some (.inl i), some (.inl b), some (.inl j), some (.inl n), none, none, none] [.inl 0] μ20
                                refine jv_if_eqT rfl rfl (by decide) ?_
                                refine jv_aload_n rfl rfl rfl (by decide) ?_
                                refine jv_iconst rfl rfl ?_
                                refine jv_callV1 rfl rfl rfl rfl ⟨by decide, rfl⟩ (Nat.le_of_ble_eq_true rfl) (mo_find (by omega) (fun ν49_1 eν49_1 => ?_))
                                show jV _ _ jm_p_X10_copy _ 50 [some (.inr (.inr 94)), some (.inl a), some (.inl i), some (.inl b), some (.inl j), some (.inl n), none, none, none] [.inl (-1000010 - 2)] ν49_1
                                refine jv_ireturn rfl (Or.inl rfl) ?_
                                exact ⟨jv_one (by omega), jI_find hI eμ20 eν49_1⟩
                        · first
                          | (exfalso; omega)
                          | skip
                            refine jv_aload_n rfl rfl rfl (by decide) ?_
                            refine jv_iconst rfl rfl ?_
                            refine jv_callV1 rfl rfl rfl rfl ⟨by decide, rfl⟩ (Nat.le_of_ble_eq_true rfl) (mo_find (by omega) (fun ν33 eν33 => ?_))
                            show jV _ _ jm_p_X10_copy _ 34 [some (.inr (.inr 94)), some (.inl a), some (.inl i), some (.inl b), some (.inl j), some (.inl n), none, none, none] [.inl (-1000010 - 5)] ν33
                            refine jv_ireturn rfl (Or.inl rfl) ?_
                            exact ⟨jv_one (by omega), jI_find hI eμ20 eν33⟩
                    · first
                      | (exfalso; omega)
                      | skip
                        refine jv_aload_n rfl rfl rfl (by decide) ?_
                        refine jv_iconst rfl rfl ?_
                        refine jv_callV1 rfl rfl rfl rfl ⟨by decide, rfl⟩ (Nat.le_of_ble_eq_true rfl) (mo_find (by omega) (fun ν20_1 eν20_1 => ?_))
                        show jV _ _ jm_p_X10_copy _ 21 [some (.inr (.inr 94)), some (.inl a), some (.inl i), some (.inl b), some (.inl j), some (.inl n), none, none, none] [.inl (-1000010 - 1)] ν20_1
                        refine jv_ireturn rfl (Or.inl rfl) ?_
                        exact ⟨jv_one (by omega), jI_find hI eμ20 eν20_1⟩
            · first
              | (exfalso; omega)
              | skip
                show jV _ _ jm_p_X10_copy _ 5 [some (.inr (.inr 94)), some (.inl a), some (.inl i), some (.inl b), some (.inl j), some (.inl n), none, none, none] [.inl 0] μ20
                refine jv_if_neF rfl rfl (by decide) ?_
                refine jv_ldc rfl rfl ?_
                refine jv_ireturn rfl (Or.inl rfl) ?_
                exact ⟨jv_one (by omega), by exfalso; omega⟩
        · first
          | (exfalso; omega)
          | skip
            show jV _ _ jm_p_X10_copy _ 2 [some (.inr (.inr 94)), some (.inl a), some (.inl i), some (.inl b), some (.inl j), some (.inl n), none, none, none] [.inl 0] μ20
            refine jv_if_eqT rfl rfl (by decide) ?_
            refine jv_ldc rfl rfl ?_
            refine jv_ireturn rfl (Or.inl rfl) ?_
            exact ⟨jv_one (by omega), by exfalso; omega⟩
      · show jV _ _ jm_p_X9_copy _ 12 [some (.inr (.inr 0)), some (.inl a), some (.inl i), some (.inl b), some (.inl j), some (.inl n)] [.inl 0] μ
        refine jv_if_neF rfl rfl (by decide) ?_
        refine jv_aload_n rfl rfl rfl (by decide) ?_
        refine jv_getr (w := 1) rfl rfl rfl ⟨by decide, rfl⟩ rfl rfl ?_
        refine jv_iload_n rfl rfl rfl ?_
        refine jv_callV1 rfl rfl rfl rfl ⟨by decide, rfl⟩ (Nat.le_of_ble_eq_true rfl) (cl_isMissing (by omega) (fun b16 => ?_) (fun b16 => ?_))
        · show jV _ _ jm_p_X9_copy _ 17 [some (.inr (.inr 0)), some (.inl a), some (.inl i), some (.inl b), some (.inl j), some (.inl n)] [.inl 1] μ
          refine jv_if_eqF rfl rfl (by decide) ?_
          refine jv_aload_n rfl rfl rfl (by decide) ?_
          refine jv_iconst rfl rfl ?_
          refine jv_callV1 rfl rfl rfl rfl ⟨by decide, rfl⟩ (Nat.le_of_ble_eq_true rfl) (cl_found (by omega) (fun μ20_1 eμ20_1 => ?_))
          show jV _ _ jm_p_X9_copy _ 21 [some (.inr (.inr 0)), some (.inl a), some (.inl i), some (.inl b), some (.inl j), some (.inl n)] [.inl (-1000010 - 1)] μ20_1
          refine jv_ireturn rfl (Or.inl rfl) ?_
          refine ⟨_, rfl, ?_⟩
          have f97a : μ20_1 97 a = μ 97 a := by rw [eμ20_1]; rfl
          have f97b : μ20_1 97 b = μ 97 b := by rw [eμ20_1]; rfl
          have f98a : μ20_1 98 a = μ 98 a := by rw [eμ20_1]; rfl
          have f98b : μ20_1 98 b = μ 98 b := by rw [eμ20_1]; rfl
          refine jv_enter (d := 199) jm_p_X10_copy [some (.inr (.inr 94)), some (.inl a), some (.inl i), some (.inl b), some (.inl j), some (.inl n), none, none, none] rfl rfl rfl (Nat.le_of_ble_eq_true rfl) rfl rfl ?_
          refine jv_iload_n rfl rfl rfl ?_
          refine jv_callS1 rfl rfl rfl (Nat.le_of_ble_eq_true rfl) (mo_isRow (fun b1 => ?_) (fun b1 => ?_))
          · first
            | (exfalso; omega)
            | skip
              show jV _ _ jm_p_X10_copy _ 2 [some (.inr (.inr 94)), some (.inl a), some (.inl i), some (.inl b), some (.inl j), some (.inl n), none, none, none] [.inl 1] μ20_1
              refine jv_if_eqF rfl rfl (by decide) ?_
              refine jv_iload_n rfl rfl rfl ?_
              refine jv_callS1 rfl rfl rfl (Nat.le_of_ble_eq_true rfl) (mo_isRow (fun b4 => ?_) (fun b4 => ?_))
              · first
                | (exfalso; omega)
                | skip
                  show jV _ _ jm_p_X10_copy _ 5 [some (.inr (.inr 94)), some (.inl a), some (.inl i), some (.inl b), some (.inl j), some (.inl n), none, none, none] [.inl 1] μ20_1
                  refine jv_if_neT rfl rfl (by decide) ?_
                  refine jv_aload_n rfl rfl rfl (by decide) ?_
                  refine jv_getr (w := 98) rfl rfl rfl ⟨by decide, rfl⟩ rfl rfl ?_
                  refine jv_iload_n rfl rfl rfl ?_
                  refine jv_iaload rfl rfl (by decide) rfl ⟨by omega, by omega⟩ ?_
                  refine jv_if_lt rfl rfl rfl (fun c12 => ?_) (fun c12 => ?_)
                  · first
                    | (exfalso; omega)
                    | skip
                      refine jv_aload_n rfl rfl rfl (by decide) ?_
                      refine jv_iconst rfl rfl ?_
                      refine jv_callV1 rfl rfl rfl rfl ⟨by decide, rfl⟩ (Nat.le_of_ble_eq_true rfl) (mo_find (by omega) (fun ν20 eν20 => ?_))
                      show jV _ _ jm_p_X10_copy _ 21 [some (.inr (.inr 94)), some (.inl a), some (.inl i), some (.inl b), some (.inl j), some (.inl n), none, none, none] [.inl (-1000010 - 1)] ν20
                      refine jv_ireturn rfl (Or.inl rfl) ?_
                      exact ⟨jv_one (by omega), jI_find hI eμ20_1 eν20⟩
                  · first
                    | (exfalso; omega)
                    | skip
                      refine jv_aload_n rfl rfl rfl (by decide) ?_
                      refine jv_getr (w := 98) rfl rfl rfl ⟨by decide, rfl⟩ rfl rfl ?_
                      refine jv_iload_n rfl rfl rfl ?_
                      refine jv_iaload rfl rfl (by decide) rfl ⟨by omega, by omega⟩ ?_
                      refine jv_if_ge rfl rfl rfl (fun c17 => ?_) (fun c17 => ?_)
                      · first
                        | (exfalso; omega)
                        | skip
                          refine jv_aload_n rfl rfl rfl (by decide) ?_
                          refine jv_getr (w := 97) rfl rfl rfl ⟨by decide, rfl⟩ rfl rfl ?_
                          refine jv_iload_n rfl rfl rfl ?_
                          refine jv_iaload rfl rfl (by decide) rfl ⟨by omega, by omega⟩ ?_
                          refine jv_aload_n rfl rfl rfl (by decide) ?_
                          refine jv_getr (w := 97) rfl rfl rfl ⟨by decide, rfl⟩ rfl rfl ?_
                          refine jv_iload_n rfl rfl rfl ?_
                          refine jv_iaload rfl rfl (by decide) rfl ⟨by omega, by omega⟩ ?_
                          refine jv_icmp_eq rfl rfl rfl (fun c30 => ?_) (fun c30 => ?_)
                          · first
                            | (exfalso; omega)
                            | skip
                              refine jv_aload_n rfl rfl rfl (by decide) ?_
                              refine jv_iload_n rfl rfl rfl ?_
                              refine jv_iload_n rfl rfl rfl ?_
                              refine jv_iload rfl rfl rfl ?_
                              refine jv_callV3 rfl rfl rfl rfl ⟨by decide, rfl⟩ (Nat.le_of_ble_eq_true rfl) (mo_isSpan (by omega) (by omega) (by omega) (by omega) (fun b39 => ?_) (fun b39 => ?_))
                              · first
                                | (exfalso; omega)
                                | skip
                                  show jV _ _ jm_p_X10_copy _ 40 [some (.inr (.inr 94)), some (.inl a), some (.inl i), some (.inl b), some (.inl j), some (.inl n), none, none, none] [.inl 1] μ20_1
                                  refine jv_if_eqF rfl rfl (by decide) ?_
                                  refine jv_aload_n rfl rfl rfl (by decide) ?_
                                  refine jv_iload_n rfl rfl rfl ?_
                                  refine jv_iload rfl rfl rfl ?_
                                  refine jv_iload rfl rfl rfl ?_
                                  refine jv_callV3 rfl rfl rfl rfl ⟨by decide, rfl⟩ (Nat.le_of_ble_eq_true rfl) (mo_isSpan (by omega) (by omega) (by omega) (by omega) (fun b45 => ?_) (fun b45 => ?_))
                                  · first
                                    | (exfalso; omega)
                                    | skip
                                      show jV _ _ jm_p_X10_copy _ 46 [some (.inr (.inr 94)), some (.inl a), some (.inl i), some (.inl b), some (.inl j), some (.inl n), none, none, none] [.inl 1] μ20_1
                                      refine jv_if_neT rfl rfl (by decide) ?_
                                      refine jv_iload_n rfl rfl rfl ?_
                                      refine jv_iload rfl rfl rfl ?_
                                      refine jv_icmp_ge rfl rfl rfl (fun c53 => ?_) (fun c53 => ?_)
                                      · first
                                        | (exfalso; omega)
                                        | skip
                                          refine jv_iconst rfl rfl ?_
                                          refine jv_istoreK (L2 := [some (.inr (.inr 94)), some (.inl a), some (.inl i), some (.inl b), some (.inl j), some (.inl n), some (.inl 0), none, none]) rfl rfl rfl ?_
                                          refine jv_iconst rfl rfl ?_
                                          refine jv_istoreK (L2 := [some (.inr (.inr 94)), some (.inl a), some (.inl i), some (.inl b), some (.inl j), some (.inl n), some (.inl 0), some (.inl 0), none]) rfl rfl rfl ?_
                                          refine mo_copy_f (by omega) (by omega) (by omega) (by omega) (by omega) (by omega) (μ0 := μ20_1) (fun μz eμz => ?_) 101 0 _ μ20_1 (by omega) (by omega) (by omega) ?_
                                          · have hz : ∀ z, μz z = jm_uc (jm_uc (jm_uc (jm_uc μ 2 (jm_cpy (μ 2) (μ 2) (40 * a + i) (40 * b + j) n)) 0 (jm_u1 (μ 0) 11 0)) 99 (jm_cpy (μ 99) (μ 99) (40 * a + i) (40 * b + j) n)) 94 (jm_u1 (μ 94) 10 0) z := by
                                              intro z
                                              rw [eμz, ecb, eca]
                                              rfl
                                            refine ⟨rfl, jI_rowsC hI ⟨fun q q0 q1 => ?_, fun q q0 q1 => ?_⟩ (fun z a1 b1 c1 d d2 d3 d4 d5 => by rw [hz, jm_off1 d2, jm_off1 d5, jm_off1 a1, jm_off1 b1]) ?_ ?_ ?_ ?_ ?_ ?_⟩
                                            · rw [hz, hz]
                                              show jm_cpy (μ 2) (μ 2) (40 * a + i) (40 * b + j) n q = jm_cpy (μ 99) (μ 99) (40 * a + i) (40 * b + j) n q
                                              unfold jm_cpy
                                              split
                                              · exact hit _ (by omega) (by omega)
                                              · exact hit q q0 q1
                                            · rw [hz, hz, hz, hz]
                                              exact hlan q q0 q1
                                            · rw [hz]; rfl
                                            · rw [hz]; rfl
                                            · rw [hz]; rfl
                                            · rw [hz]; rfl
                                            · rw [hz, hz]; rfl
                                            · rw [hz, hz]
                                              exact hfa
                                          · have e : (fun z => if 40 * b + j ≤ z ∧ z < 40 * b + j + 0 then μ20_1 99 (40 * a + i + (z - (40 * b + j))) else μ20_1 99 z) = μ20_1 99 := by
                                              funext z
                                              rw [if_neg (by omega)]
                                            rw [e, jm_uc_id]
                                      · first
                                        | (exfalso; omega)
                                        | skip
                                          refine jv_iconst rfl rfl ?_
                                          refine jv_goto rfl rfl ?_
                                          refine jv_istoreK (L2 := [some (.inr (.inr 94)), some (.inl a), some (.inl i), some (.inl b), some (.inl j), some (.inl n), some (.inl 1), none, none]) rfl rfl rfl ?_
                                          refine jv_iconst rfl rfl ?_
                                          refine jv_istoreK (L2 := [some (.inr (.inr 94)), some (.inl a), some (.inl i), some (.inl b), some (.inl j), some (.inl n), some (.inl 1), some (.inl 0), none]) rfl rfl rfl ?_
                                          refine mo_copy_b (by omega) (by omega) (by omega) (by omega) (by omega) (by omega) (μ0 := μ20_1) (fun μz eμz => ?_) 101 0 _ μ20_1 (by omega) (by omega) (by omega) ?_
                                          · have hz : ∀ z, μz z = jm_uc (jm_uc (jm_uc (jm_uc μ 2 (jm_cpy (μ 2) (μ 2) (40 * a + i) (40 * b + j) n)) 0 (jm_u1 (μ 0) 11 0)) 99 (jm_cpy (μ 99) (μ 99) (40 * a + i) (40 * b + j) n)) 94 (jm_u1 (μ 94) 10 0) z := by
                                              intro z
                                              rw [eμz, ecb, eca]
                                              rfl
                                            refine ⟨rfl, jI_rowsC hI ⟨fun q q0 q1 => ?_, fun q q0 q1 => ?_⟩ (fun z a1 b1 c1 d d2 d3 d4 d5 => by rw [hz, jm_off1 d2, jm_off1 d5, jm_off1 a1, jm_off1 b1]) ?_ ?_ ?_ ?_ ?_ ?_⟩
                                            · rw [hz, hz]
                                              show jm_cpy (μ 2) (μ 2) (40 * a + i) (40 * b + j) n q = jm_cpy (μ 99) (μ 99) (40 * a + i) (40 * b + j) n q
                                              unfold jm_cpy
                                              split
                                              · exact hit _ (by omega) (by omega)
                                              · exact hit q q0 q1
                                            · rw [hz, hz, hz, hz]
                                              exact hlan q q0 q1
                                            · rw [hz]; rfl
                                            · rw [hz]; rfl
                                            · rw [hz]; rfl
                                            · rw [hz]; rfl
                                            · rw [hz, hz]; rfl
                                            · rw [hz, hz]
                                              exact hfa
                                          · have e : (fun z => if 40 * b + j + n - 0 ≤ z ∧ z < 40 * b + j + n then μ20_1 99 (40 * a + i + (z - (40 * b + j))) else μ20_1 99 z) = μ20_1 99 := by
                                              funext z
                                              rw [if_neg (by omega)]
                                            rw [e, jm_uc_id]
                                  · first
                                    | (exfalso; omega)
                                    | skip
                                      show jV _ _ jm_p_X10_copy _ 46 [some (.inr (.inr 94)), some (.inl a), some (.inl i), some (.inl b), some (.inl j), some (.inl n), none, none, none] [.inl 0] μ20_1
                                      refine jv_if_neF rfl rfl (by decide) ?_
                                      refine jv_aload_n rfl rfl rfl (by decide) ?_
                                      refine jv_iconst rfl rfl ?_
                                      refine jv_callV1 rfl rfl rfl rfl ⟨by decide, rfl⟩ (Nat.le_of_ble_eq_true rfl) (mo_find (by omega) (fun ν49 eν49 => ?_))
                                      show jV _ _ jm_p_X10_copy _ 50 [some (.inr (.inr 94)), some (.inl a), some (.inl i), some (.inl b), some (.inl j), some (.inl n), none, none, none] [.inl (-1000010 - 2)] ν49
                                      refine jv_ireturn rfl (Or.inl rfl) ?_
                                      exact ⟨jv_one (by omega), jI_find hI eμ20_1 eν49⟩
                              · first
                                | (exfalso; omega)
                                | skip
                                  show jV _ _ jm_p_X10_copy _ 40 [some (.inr (.inr 94)), some (.inl a), some (.inl i), some (.inl b), some (.inl j), some (.inl n), none, none, none] [.inl 0] μ20_1
                                  refine jv_if_eqT rfl rfl (by decide) ?_
                                  refine jv_aload_n rfl rfl rfl (by decide) ?_
                                  refine jv_iconst rfl rfl ?_
                                  refine jv_callV1 rfl rfl rfl rfl ⟨by decide, rfl⟩ (Nat.le_of_ble_eq_true rfl) (mo_find (by omega) (fun ν49_1 eν49_1 => ?_))
                                  show jV _ _ jm_p_X10_copy _ 50 [some (.inr (.inr 94)), some (.inl a), some (.inl i), some (.inl b), some (.inl j), some (.inl n), none, none, none] [.inl (-1000010 - 2)] ν49_1
                                  refine jv_ireturn rfl (Or.inl rfl) ?_
                                  exact ⟨jv_one (by omega), jI_find hI eμ20_1 eν49_1⟩
                          · first
                            | (exfalso; omega)
                            | skip
                              refine jv_aload_n rfl rfl rfl (by decide) ?_
                              refine jv_iconst rfl rfl ?_
                              refine jv_callV1 rfl rfl rfl rfl ⟨by decide, rfl⟩ (Nat.le_of_ble_eq_true rfl) (mo_find (by omega) (fun ν33 eν33 => ?_))
                              show jV _ _ jm_p_X10_copy _ 34 [some (.inr (.inr 94)), some (.inl a), some (.inl i), some (.inl b), some (.inl j), some (.inl n), none, none, none] [.inl (-1000010 - 5)] ν33
                              refine jv_ireturn rfl (Or.inl rfl) ?_
                              exact ⟨jv_one (by omega), jI_find hI eμ20_1 eν33⟩
                      · first
                        | (exfalso; omega)
                        | skip
                          refine jv_aload_n rfl rfl rfl (by decide) ?_
                          refine jv_iconst rfl rfl ?_
                          refine jv_callV1 rfl rfl rfl rfl ⟨by decide, rfl⟩ (Nat.le_of_ble_eq_true rfl) (mo_find (by omega) (fun ν20_1 eν20_1 => ?_))
                          show jV _ _ jm_p_X10_copy _ 21 [some (.inr (.inr 94)), some (.inl a), some (.inl i), some (.inl b), some (.inl j), some (.inl n), none, none, none] [.inl (-1000010 - 1)] ν20_1
                          refine jv_ireturn rfl (Or.inl rfl) ?_
                          exact ⟨jv_one (by omega), jI_find hI eμ20_1 eν20_1⟩
              · first
                | (exfalso; omega)
                | skip
                  show jV _ _ jm_p_X10_copy _ 5 [some (.inr (.inr 94)), some (.inl a), some (.inl i), some (.inl b), some (.inl j), some (.inl n), none, none, none] [.inl 0] μ20_1
                  refine jv_if_neF rfl rfl (by decide) ?_
                  refine jv_ldc rfl rfl ?_
                  refine jv_ireturn rfl (Or.inl rfl) ?_
                  exact ⟨jv_one (by omega), by exfalso; omega⟩
          · first
            | (exfalso; omega)
            | skip
              show jV _ _ jm_p_X10_copy _ 2 [some (.inr (.inr 94)), some (.inl a), some (.inl i), some (.inl b), some (.inl j), some (.inl n), none, none, none] [.inl 0] μ20_1
              refine jv_if_eqT rfl rfl (by decide) ?_
              refine jv_ldc rfl rfl ?_
              refine jv_ireturn rfl (Or.inl rfl) ?_
              exact ⟨jv_one (by omega), by exfalso; omega⟩
        · show jV _ _ jm_p_X9_copy _ 17 [some (.inr (.inr 0)), some (.inl a), some (.inl i), some (.inl b), some (.inl j), some (.inl n)] [.inl 0] μ
          refine jv_if_eqT rfl rfl (by decide) ?_
          refine jv_aload_n rfl rfl rfl (by decide) ?_
          refine jv_getr (w := 1) rfl rfl rfl ⟨by decide, rfl⟩ rfl rfl ?_
          refine jv_iload_n rfl rfl rfl ?_
          refine jv_iload_n rfl rfl rfl ?_
          refine jv_callV2 rfl rfl rfl rfl ⟨by decide, rfl⟩ (Nat.le_of_ble_eq_true rfl) (cl_sameLane (by omega) (by omega) (fun b26 => ?_) (fun b26 => ?_))
          · show jV _ _ jm_p_X9_copy _ 27 [some (.inr (.inr 0)), some (.inl a), some (.inl i), some (.inl b), some (.inl j), some (.inl n)] [.inl 1] μ
            refine jv_if_neT rfl rfl (by decide) ?_
            refine jv_aload_n rfl rfl rfl (by decide) ?_
            refine jv_getr (w := 1) rfl rfl rfl ⟨by decide, rfl⟩ rfl rfl ?_
            refine jv_iload_n rfl rfl rfl ?_
            refine jv_iload_n rfl rfl rfl ?_
            refine jv_iload rfl rfl rfl ?_
            refine jv_callV3 rfl rfl rfl rfl ⟨by decide, rfl⟩ (Nat.le_of_ble_eq_true rfl) (cl_reaches (by omega) (by omega) (by omega) (fun b37 => ?_) (fun b37 => ?_))
            · show jV _ _ jm_p_X9_copy _ 38 [some (.inr (.inr 0)), some (.inl a), some (.inl i), some (.inl b), some (.inl j), some (.inl n)] [.inl 1] μ
              refine jv_if_eqF rfl rfl (by decide) ?_
              refine jv_aload_n rfl rfl rfl (by decide) ?_
              refine jv_getr (w := 1) rfl rfl rfl ⟨by decide, rfl⟩ rfl rfl ?_
              refine jv_iload_n rfl rfl rfl ?_
              refine jv_iload rfl rfl rfl ?_
              refine jv_iload rfl rfl rfl ?_
              refine jv_callV3 rfl rfl rfl rfl ⟨by decide, rfl⟩ (Nat.le_of_ble_eq_true rfl) (cl_reaches (by omega) (by omega) (by omega) (fun b44 => ?_) (fun b44 => ?_))
              · show jV _ _ jm_p_X9_copy _ 45 [some (.inr (.inr 0)), some (.inl a), some (.inl i), some (.inl b), some (.inl j), some (.inl n)] [.inl 1] μ
                refine jv_if_neT rfl rfl (by decide) ?_
                refine jv_aload_n rfl rfl rfl (by decide) ?_
                refine jv_getr (w := 1) rfl rfl rfl ⟨by decide, rfl⟩ rfl rfl ?_
                refine jv_iload_n rfl rfl rfl ?_
                refine jv_iload_n rfl rfl rfl ?_
                refine jv_iload_n rfl rfl rfl ?_
                refine jv_iload rfl rfl rfl ?_
                refine jv_iload rfl rfl rfl ?_
                refine jv_callV5 rfl rfl rfl rfl ⟨by decide, rfl⟩ (Nat.le_of_ble_eq_true rfl) (cl_carryOver (by omega) (by omega) (by omega) (by omega) (by omega) (fun μ57 eμ57 => ?_))
                show jV _ _ jm_p_X9_copy _ 58 [some (.inr (.inr 0)), some (.inl a), some (.inl i), some (.inl b), some (.inl j), some (.inl n)] [] μ57
                refine jv_aload_n rfl rfl rfl (by decide) ?_
                refine jv_iload rfl rfl rfl ?_
                refine jv_callV1 rfl rfl rfl rfl ⟨by decide, rfl⟩ (Nat.le_of_ble_eq_true rfl) (cl_unfound (fun μ60 eμ60 => ?_))
                show jV _ _ jm_p_X9_copy _ 61 [some (.inr (.inr 0)), some (.inl a), some (.inl i), some (.inl b), some (.inl j), some (.inl n)] [.inl n] μ60
                refine jv_ireturn rfl (Or.inl rfl) ?_
                refine ⟨_, rfl, ?_⟩
                have f97a : μ60 97 a = μ 97 a := by rw [eμ60, eμ57]; rfl
                have f97b : μ60 97 b = μ 97 b := by rw [eμ60, eμ57]; rfl
                have f98a : μ60 98 a = μ 98 a := by rw [eμ60, eμ57]; rfl
                have f98b : μ60 98 b = μ 98 b := by rw [eμ60, eμ57]; rfl
                have eca := eμ57
                have ecb := eμ60
                refine jv_enter (d := 199) jm_p_X10_copy [some (.inr (.inr 94)), some (.inl a), some (.inl i), some (.inl b), some (.inl j), some (.inl n), none, none, none] rfl rfl rfl (Nat.le_of_ble_eq_true rfl) rfl rfl ?_
                refine jv_iload_n rfl rfl rfl ?_
                refine jv_callS1 rfl rfl rfl (Nat.le_of_ble_eq_true rfl) (mo_isRow (fun b1 => ?_) (fun b1 => ?_))
                · first
                  | (exfalso; omega)
                  | skip
                    show jV _ _ jm_p_X10_copy _ 2 [some (.inr (.inr 94)), some (.inl a), some (.inl i), some (.inl b), some (.inl j), some (.inl n), none, none, none] [.inl 1] μ60
                    refine jv_if_eqF rfl rfl (by decide) ?_
                    refine jv_iload_n rfl rfl rfl ?_
                    refine jv_callS1 rfl rfl rfl (Nat.le_of_ble_eq_true rfl) (mo_isRow (fun b4 => ?_) (fun b4 => ?_))
                    · first
                      | (exfalso; omega)
                      | skip
                        show jV _ _ jm_p_X10_copy _ 5 [some (.inr (.inr 94)), some (.inl a), some (.inl i), some (.inl b), some (.inl j), some (.inl n), none, none, none] [.inl 1] μ60
                        refine jv_if_neT rfl rfl (by decide) ?_
                        refine jv_aload_n rfl rfl rfl (by decide) ?_
                        refine jv_getr (w := 98) rfl rfl rfl ⟨by decide, rfl⟩ rfl rfl ?_
                        refine jv_iload_n rfl rfl rfl ?_
                        refine jv_iaload rfl rfl (by decide) rfl ⟨by omega, by omega⟩ ?_
                        refine jv_if_lt rfl rfl rfl (fun c12 => ?_) (fun c12 => ?_)
                        · first
                          | (exfalso; omega)
                          | skip
                            refine jv_aload_n rfl rfl rfl (by decide) ?_
                            refine jv_iconst rfl rfl ?_
                            refine jv_callV1 rfl rfl rfl rfl ⟨by decide, rfl⟩ (Nat.le_of_ble_eq_true rfl) (mo_find (by omega) (fun ν20 eν20 => ?_))
                            show jV _ _ jm_p_X10_copy _ 21 [some (.inr (.inr 94)), some (.inl a), some (.inl i), some (.inl b), some (.inl j), some (.inl n), none, none, none] [.inl (-1000010 - 1)] ν20
                            refine jv_ireturn rfl (Or.inl rfl) ?_
                            exact ⟨jv_one (by omega), by exfalso; omega⟩
                        · first
                          | (exfalso; omega)
                          | skip
                            refine jv_aload_n rfl rfl rfl (by decide) ?_
                            refine jv_getr (w := 98) rfl rfl rfl ⟨by decide, rfl⟩ rfl rfl ?_
                            refine jv_iload_n rfl rfl rfl ?_
                            refine jv_iaload rfl rfl (by decide) rfl ⟨by omega, by omega⟩ ?_
                            refine jv_if_ge rfl rfl rfl (fun c17 => ?_) (fun c17 => ?_)
                            · first
                              | (exfalso; omega)
                              | skip
                                refine jv_aload_n rfl rfl rfl (by decide) ?_
                                refine jv_getr (w := 97) rfl rfl rfl ⟨by decide, rfl⟩ rfl rfl ?_
                                refine jv_iload_n rfl rfl rfl ?_
                                refine jv_iaload rfl rfl (by decide) rfl ⟨by omega, by omega⟩ ?_
                                refine jv_aload_n rfl rfl rfl (by decide) ?_
                                refine jv_getr (w := 97) rfl rfl rfl ⟨by decide, rfl⟩ rfl rfl ?_
                                refine jv_iload_n rfl rfl rfl ?_
                                refine jv_iaload rfl rfl (by decide) rfl ⟨by omega, by omega⟩ ?_
                                refine jv_icmp_eq rfl rfl rfl (fun c30 => ?_) (fun c30 => ?_)
                                · first
                                  | (exfalso; omega)
                                  | skip
                                    refine jv_aload_n rfl rfl rfl (by decide) ?_
                                    refine jv_iload_n rfl rfl rfl ?_
                                    refine jv_iload_n rfl rfl rfl ?_
                                    refine jv_iload rfl rfl rfl ?_
                                    refine jv_callV3 rfl rfl rfl rfl ⟨by decide, rfl⟩ (Nat.le_of_ble_eq_true rfl) (mo_isSpan (by omega) (by omega) (by omega) (by omega) (fun b39 => ?_) (fun b39 => ?_))
                                    · first
                                      | (exfalso; omega)
                                      | skip
                                        show jV _ _ jm_p_X10_copy _ 40 [some (.inr (.inr 94)), some (.inl a), some (.inl i), some (.inl b), some (.inl j), some (.inl n), none, none, none] [.inl 1] μ60
                                        refine jv_if_eqF rfl rfl (by decide) ?_
                                        refine jv_aload_n rfl rfl rfl (by decide) ?_
                                        refine jv_iload_n rfl rfl rfl ?_
                                        refine jv_iload rfl rfl rfl ?_
                                        refine jv_iload rfl rfl rfl ?_
                                        refine jv_callV3 rfl rfl rfl rfl ⟨by decide, rfl⟩ (Nat.le_of_ble_eq_true rfl) (mo_isSpan (by omega) (by omega) (by omega) (by omega) (fun b45 => ?_) (fun b45 => ?_))
                                        · first
                                          | (exfalso; omega)
                                          | skip
                                            show jV _ _ jm_p_X10_copy _ 46 [some (.inr (.inr 94)), some (.inl a), some (.inl i), some (.inl b), some (.inl j), some (.inl n), none, none, none] [.inl 1] μ60
                                            refine jv_if_neT rfl rfl (by decide) ?_
                                            refine jv_iload_n rfl rfl rfl ?_
                                            refine jv_iload rfl rfl rfl ?_
                                            refine jv_icmp_ge rfl rfl rfl (fun c53 => ?_) (fun c53 => ?_)
                                            · first
                                              | (exfalso; omega)
                                              | skip
                                                refine jv_iconst rfl rfl ?_
                                                refine jv_istoreK (L2 := [some (.inr (.inr 94)), some (.inl a), some (.inl i), some (.inl b), some (.inl j), some (.inl n), some (.inl 0), none, none]) rfl rfl rfl ?_
                                                refine jv_iconst rfl rfl ?_
                                                refine jv_istoreK (L2 := [some (.inr (.inr 94)), some (.inl a), some (.inl i), some (.inl b), some (.inl j), some (.inl n), some (.inl 0), some (.inl 0), none]) rfl rfl rfl ?_
                                                refine mo_copy_f (by omega) (by omega) (by omega) (by omega) (by omega) (by omega) (μ0 := μ60) (fun μz eμz => ?_) 101 0 _ μ60 (by omega) (by omega) (by omega) ?_
                                                · have hz : ∀ z, μz z = jm_uc (jm_uc (jm_uc (jm_uc μ 2 (jm_cpy (μ 2) (μ 2) (40 * a + i) (40 * b + j) n)) 0 (jm_u1 (μ 0) 11 0)) 99 (jm_cpy (μ 99) (μ 99) (40 * a + i) (40 * b + j) n)) 94 (jm_u1 (μ 94) 10 0) z := by
                                                    intro z
                                                    rw [eμz, ecb, eca]
                                                    rfl
                                                  refine ⟨rfl, jI_rowsC hI ⟨fun q q0 q1 => ?_, fun q q0 q1 => ?_⟩ (fun z a1 b1 c1 d d2 d3 d4 d5 => by rw [hz, jm_off1 d2, jm_off1 d5, jm_off1 a1, jm_off1 b1]) ?_ ?_ ?_ ?_ ?_ ?_⟩
                                                  · rw [hz, hz]
                                                    show jm_cpy (μ 2) (μ 2) (40 * a + i) (40 * b + j) n q = jm_cpy (μ 99) (μ 99) (40 * a + i) (40 * b + j) n q
                                                    unfold jm_cpy
                                                    split
                                                    · exact hit _ (by omega) (by omega)
                                                    · exact hit q q0 q1
                                                  · rw [hz, hz, hz, hz]
                                                    exact hlan q q0 q1
                                                  · rw [hz]; rfl
                                                  · rw [hz]; rfl
                                                  · rw [hz]; rfl
                                                  · rw [hz]; rfl
                                                  · rw [hz, hz]; rfl
                                                  · rw [hz, hz]
                                                    exact hfa
                                                · have e : (fun z => if 40 * b + j ≤ z ∧ z < 40 * b + j + 0 then μ60 99 (40 * a + i + (z - (40 * b + j))) else μ60 99 z) = μ60 99 := by
                                                    funext z
                                                    rw [if_neg (by omega)]
                                                  rw [e, jm_uc_id]
                                            · first
                                              | (exfalso; omega)
                                              | skip
                                                refine jv_iconst rfl rfl ?_
                                                refine jv_goto rfl rfl ?_
                                                refine jv_istoreK (L2 := [some (.inr (.inr 94)), some (.inl a), some (.inl i), some (.inl b), some (.inl j), some (.inl n), some (.inl 1), none, none]) rfl rfl rfl ?_
                                                refine jv_iconst rfl rfl ?_
                                                refine jv_istoreK (L2 := [some (.inr (.inr 94)), some (.inl a), some (.inl i), some (.inl b), some (.inl j), some (.inl n), some (.inl 1), some (.inl 0), none]) rfl rfl rfl ?_
                                                refine mo_copy_b (by omega) (by omega) (by omega) (by omega) (by omega) (by omega) (μ0 := μ60) (fun μz eμz => ?_) 101 0 _ μ60 (by omega) (by omega) (by omega) ?_
                                                · have hz : ∀ z, μz z = jm_uc (jm_uc (jm_uc (jm_uc μ 2 (jm_cpy (μ 2) (μ 2) (40 * a + i) (40 * b + j) n)) 0 (jm_u1 (μ 0) 11 0)) 99 (jm_cpy (μ 99) (μ 99) (40 * a + i) (40 * b + j) n)) 94 (jm_u1 (μ 94) 10 0) z := by
                                                    intro z
                                                    rw [eμz, ecb, eca]
                                                    rfl
                                                  refine ⟨rfl, jI_rowsC hI ⟨fun q q0 q1 => ?_, fun q q0 q1 => ?_⟩ (fun z a1 b1 c1 d d2 d3 d4 d5 => by rw [hz, jm_off1 d2, jm_off1 d5, jm_off1 a1, jm_off1 b1]) ?_ ?_ ?_ ?_ ?_ ?_⟩
                                                  · rw [hz, hz]
                                                    show jm_cpy (μ 2) (μ 2) (40 * a + i) (40 * b + j) n q = jm_cpy (μ 99) (μ 99) (40 * a + i) (40 * b + j) n q
                                                    unfold jm_cpy
                                                    split
                                                    · exact hit _ (by omega) (by omega)
                                                    · exact hit q q0 q1
                                                  · rw [hz, hz, hz, hz]
                                                    exact hlan q q0 q1
                                                  · rw [hz]; rfl
                                                  · rw [hz]; rfl
                                                  · rw [hz]; rfl
                                                  · rw [hz]; rfl
                                                  · rw [hz, hz]; rfl
                                                  · rw [hz, hz]
                                                    exact hfa
                                                · have e : (fun z => if 40 * b + j + n - 0 ≤ z ∧ z < 40 * b + j + n then μ60 99 (40 * a + i + (z - (40 * b + j))) else μ60 99 z) = μ60 99 := by
                                                    funext z
                                                    rw [if_neg (by omega)]
                                                  rw [e, jm_uc_id]
                                        · first
                                          | (exfalso; omega)
                                          | skip
                                            show jV _ _ jm_p_X10_copy _ 46 [some (.inr (.inr 94)), some (.inl a), some (.inl i), some (.inl b), some (.inl j), some (.inl n), none, none, none] [.inl 0] μ60
                                            refine jv_if_neF rfl rfl (by decide) ?_
                                            refine jv_aload_n rfl rfl rfl (by decide) ?_
                                            refine jv_iconst rfl rfl ?_
                                            refine jv_callV1 rfl rfl rfl rfl ⟨by decide, rfl⟩ (Nat.le_of_ble_eq_true rfl) (mo_find (by omega) (fun ν49 eν49 => ?_))
                                            show jV _ _ jm_p_X10_copy _ 50 [some (.inr (.inr 94)), some (.inl a), some (.inl i), some (.inl b), some (.inl j), some (.inl n), none, none, none] [.inl (-1000010 - 2)] ν49
                                            refine jv_ireturn rfl (Or.inl rfl) ?_
                                            exact ⟨jv_one (by omega), by exfalso; omega⟩
                                    · first
                                      | (exfalso; omega)
                                      | skip
                                        show jV _ _ jm_p_X10_copy _ 40 [some (.inr (.inr 94)), some (.inl a), some (.inl i), some (.inl b), some (.inl j), some (.inl n), none, none, none] [.inl 0] μ60
                                        refine jv_if_eqT rfl rfl (by decide) ?_
                                        refine jv_aload_n rfl rfl rfl (by decide) ?_
                                        refine jv_iconst rfl rfl ?_
                                        refine jv_callV1 rfl rfl rfl rfl ⟨by decide, rfl⟩ (Nat.le_of_ble_eq_true rfl) (mo_find (by omega) (fun ν49_1 eν49_1 => ?_))
                                        show jV _ _ jm_p_X10_copy _ 50 [some (.inr (.inr 94)), some (.inl a), some (.inl i), some (.inl b), some (.inl j), some (.inl n), none, none, none] [.inl (-1000010 - 2)] ν49_1
                                        refine jv_ireturn rfl (Or.inl rfl) ?_
                                        exact ⟨jv_one (by omega), by exfalso; omega⟩
                                · first
                                  | (exfalso; omega)
                                  | skip
                                    refine jv_aload_n rfl rfl rfl (by decide) ?_
                                    refine jv_iconst rfl rfl ?_
                                    refine jv_callV1 rfl rfl rfl rfl ⟨by decide, rfl⟩ (Nat.le_of_ble_eq_true rfl) (mo_find (by omega) (fun ν33 eν33 => ?_))
                                    show jV _ _ jm_p_X10_copy _ 34 [some (.inr (.inr 94)), some (.inl a), some (.inl i), some (.inl b), some (.inl j), some (.inl n), none, none, none] [.inl (-1000010 - 5)] ν33
                                    refine jv_ireturn rfl (Or.inl rfl) ?_
                                    exact ⟨jv_one (by omega), by exfalso; omega⟩
                            · first
                              | (exfalso; omega)
                              | skip
                                refine jv_aload_n rfl rfl rfl (by decide) ?_
                                refine jv_iconst rfl rfl ?_
                                refine jv_callV1 rfl rfl rfl rfl ⟨by decide, rfl⟩ (Nat.le_of_ble_eq_true rfl) (mo_find (by omega) (fun ν20_1 eν20_1 => ?_))
                                show jV _ _ jm_p_X10_copy _ 21 [some (.inr (.inr 94)), some (.inl a), some (.inl i), some (.inl b), some (.inl j), some (.inl n), none, none, none] [.inl (-1000010 - 1)] ν20_1
                                refine jv_ireturn rfl (Or.inl rfl) ?_
                                exact ⟨jv_one (by omega), by exfalso; omega⟩
                    · first
                      | (exfalso; omega)
                      | skip
                        show jV _ _ jm_p_X10_copy _ 5 [some (.inr (.inr 94)), some (.inl a), some (.inl i), some (.inl b), some (.inl j), some (.inl n), none, none, none] [.inl 0] μ60
                        refine jv_if_neF rfl rfl (by decide) ?_
                        refine jv_ldc rfl rfl ?_
                        refine jv_ireturn rfl (Or.inl rfl) ?_
                        exact ⟨jv_one (by omega), by exfalso; omega⟩
                · first
                  | (exfalso; omega)
                  | skip
                    show jV _ _ jm_p_X10_copy _ 2 [some (.inr (.inr 94)), some (.inl a), some (.inl i), some (.inl b), some (.inl j), some (.inl n), none, none, none] [.inl 0] μ60
                    refine jv_if_eqT rfl rfl (by decide) ?_
                    refine jv_ldc rfl rfl ?_
                    refine jv_ireturn rfl (Or.inl rfl) ?_
                    exact ⟨jv_one (by omega), by exfalso; omega⟩
              · show jV _ _ jm_p_X9_copy _ 45 [some (.inr (.inr 0)), some (.inl a), some (.inl i), some (.inl b), some (.inl j), some (.inl n)] [.inl 0] μ
                refine jv_if_neF rfl rfl (by decide) ?_
                refine jv_aload_n rfl rfl rfl (by decide) ?_
                refine jv_iconst rfl rfl ?_
                refine jv_callV1 rfl rfl rfl rfl ⟨by decide, rfl⟩ (Nat.le_of_ble_eq_true rfl) (cl_found (by omega) (fun μ48 eμ48 => ?_))
                show jV _ _ jm_p_X9_copy _ 49 [some (.inr (.inr 0)), some (.inl a), some (.inl i), some (.inl b), some (.inl j), some (.inl n)] [.inl (-1000010 - 2)] μ48
                refine jv_ireturn rfl (Or.inl rfl) ?_
                refine ⟨_, rfl, ?_⟩
                have f97a : μ48 97 a = μ 97 a := by rw [eμ48]; rfl
                have f97b : μ48 97 b = μ 97 b := by rw [eμ48]; rfl
                have f98a : μ48 98 a = μ 98 a := by rw [eμ48]; rfl
                have f98b : μ48 98 b = μ 98 b := by rw [eμ48]; rfl
                refine jv_enter (d := 199) jm_p_X10_copy [some (.inr (.inr 94)), some (.inl a), some (.inl i), some (.inl b), some (.inl j), some (.inl n), none, none, none] rfl rfl rfl (Nat.le_of_ble_eq_true rfl) rfl rfl ?_
                refine jv_iload_n rfl rfl rfl ?_
                refine jv_callS1 rfl rfl rfl (Nat.le_of_ble_eq_true rfl) (mo_isRow (fun b1 => ?_) (fun b1 => ?_))
                · first
                  | (exfalso; omega)
                  | skip
                    show jV _ _ jm_p_X10_copy _ 2 [some (.inr (.inr 94)), some (.inl a), some (.inl i), some (.inl b), some (.inl j), some (.inl n), none, none, none] [.inl 1] μ48
                    refine jv_if_eqF rfl rfl (by decide) ?_
                    refine jv_iload_n rfl rfl rfl ?_
                    refine jv_callS1 rfl rfl rfl (Nat.le_of_ble_eq_true rfl) (mo_isRow (fun b4 => ?_) (fun b4 => ?_))
                    · first
                      | (exfalso; omega)
                      | skip
                        show jV _ _ jm_p_X10_copy _ 5 [some (.inr (.inr 94)), some (.inl a), some (.inl i), some (.inl b), some (.inl j), some (.inl n), none, none, none] [.inl 1] μ48
                        refine jv_if_neT rfl rfl (by decide) ?_
                        refine jv_aload_n rfl rfl rfl (by decide) ?_
                        refine jv_getr (w := 98) rfl rfl rfl ⟨by decide, rfl⟩ rfl rfl ?_
                        refine jv_iload_n rfl rfl rfl ?_
                        refine jv_iaload rfl rfl (by decide) rfl ⟨by omega, by omega⟩ ?_
                        refine jv_if_lt rfl rfl rfl (fun c12 => ?_) (fun c12 => ?_)
                        · first
                          | (exfalso; omega)
                          | skip
                            refine jv_aload_n rfl rfl rfl (by decide) ?_
                            refine jv_iconst rfl rfl ?_
                            refine jv_callV1 rfl rfl rfl rfl ⟨by decide, rfl⟩ (Nat.le_of_ble_eq_true rfl) (mo_find (by omega) (fun ν20 eν20 => ?_))
                            show jV _ _ jm_p_X10_copy _ 21 [some (.inr (.inr 94)), some (.inl a), some (.inl i), some (.inl b), some (.inl j), some (.inl n), none, none, none] [.inl (-1000010 - 1)] ν20
                            refine jv_ireturn rfl (Or.inl rfl) ?_
                            exact ⟨jv_one (by omega), jI_find hI eμ48 eν20⟩
                        · first
                          | (exfalso; omega)
                          | skip
                            refine jv_aload_n rfl rfl rfl (by decide) ?_
                            refine jv_getr (w := 98) rfl rfl rfl ⟨by decide, rfl⟩ rfl rfl ?_
                            refine jv_iload_n rfl rfl rfl ?_
                            refine jv_iaload rfl rfl (by decide) rfl ⟨by omega, by omega⟩ ?_
                            refine jv_if_ge rfl rfl rfl (fun c17 => ?_) (fun c17 => ?_)
                            · first
                              | (exfalso; omega)
                              | skip
                                refine jv_aload_n rfl rfl rfl (by decide) ?_
                                refine jv_getr (w := 97) rfl rfl rfl ⟨by decide, rfl⟩ rfl rfl ?_
                                refine jv_iload_n rfl rfl rfl ?_
                                refine jv_iaload rfl rfl (by decide) rfl ⟨by omega, by omega⟩ ?_
                                refine jv_aload_n rfl rfl rfl (by decide) ?_
                                refine jv_getr (w := 97) rfl rfl rfl ⟨by decide, rfl⟩ rfl rfl ?_
                                refine jv_iload_n rfl rfl rfl ?_
                                refine jv_iaload rfl rfl (by decide) rfl ⟨by omega, by omega⟩ ?_
                                refine jv_icmp_eq rfl rfl rfl (fun c30 => ?_) (fun c30 => ?_)
                                · first
                                  | (exfalso; omega)
                                  | skip
                                    refine jv_aload_n rfl rfl rfl (by decide) ?_
                                    refine jv_iload_n rfl rfl rfl ?_
                                    refine jv_iload_n rfl rfl rfl ?_
                                    refine jv_iload rfl rfl rfl ?_
                                    refine jv_callV3 rfl rfl rfl rfl ⟨by decide, rfl⟩ (Nat.le_of_ble_eq_true rfl) (mo_isSpan (by omega) (by omega) (by omega) (by omega) (fun b39 => ?_) (fun b39 => ?_))
                                    · first
                                      | (exfalso; omega)
                                      | skip
                                        show jV _ _ jm_p_X10_copy _ 40 [some (.inr (.inr 94)), some (.inl a), some (.inl i), some (.inl b), some (.inl j), some (.inl n), none, none, none] [.inl 1] μ48
                                        refine jv_if_eqF rfl rfl (by decide) ?_
                                        refine jv_aload_n rfl rfl rfl (by decide) ?_
                                        refine jv_iload_n rfl rfl rfl ?_
                                        refine jv_iload rfl rfl rfl ?_
                                        refine jv_iload rfl rfl rfl ?_
                                        refine jv_callV3 rfl rfl rfl rfl ⟨by decide, rfl⟩ (Nat.le_of_ble_eq_true rfl) (mo_isSpan (by omega) (by omega) (by omega) (by omega) (fun b45 => ?_) (fun b45 => ?_))
                                        · first
                                          | (exfalso; omega)
                                          | skip
                                            show jV _ _ jm_p_X10_copy _ 46 [some (.inr (.inr 94)), some (.inl a), some (.inl i), some (.inl b), some (.inl j), some (.inl n), none, none, none] [.inl 1] μ48
                                            refine jv_if_neT rfl rfl (by decide) ?_
                                            refine jv_iload_n rfl rfl rfl ?_
                                            refine jv_iload rfl rfl rfl ?_
                                            refine jv_icmp_ge rfl rfl rfl (fun c53 => ?_) (fun c53 => ?_)
                                            · first
                                              | (exfalso; omega)
                                              | skip
                                                refine jv_iconst rfl rfl ?_
                                                refine jv_istoreK (L2 := [some (.inr (.inr 94)), some (.inl a), some (.inl i), some (.inl b), some (.inl j), some (.inl n), some (.inl 0), none, none]) rfl rfl rfl ?_
                                                refine jv_iconst rfl rfl ?_
                                                refine jv_istoreK (L2 := [some (.inr (.inr 94)), some (.inl a), some (.inl i), some (.inl b), some (.inl j), some (.inl n), some (.inl 0), some (.inl 0), none]) rfl rfl rfl ?_
                                                refine mo_copy_f (by omega) (by omega) (by omega) (by omega) (by omega) (by omega) (μ0 := μ48) (fun μz eμz => ?_) 101 0 _ μ48 (by omega) (by omega) (by omega) ?_
                                                · have hz : ∀ z, μz z = jm_uc (jm_uc (jm_uc (jm_uc μ 2 (jm_cpy (μ 2) (μ 2) (40 * a + i) (40 * b + j) n)) 0 (jm_u1 (μ 0) 11 0)) 99 (jm_cpy (μ 99) (μ 99) (40 * a + i) (40 * b + j) n)) 94 (jm_u1 (μ 94) 10 0) z := by
                                                    intro z
                                                    rw [eμz, ecb, eca]
                                                    rfl
                                                  refine ⟨rfl, jI_rowsC hI ⟨fun q q0 q1 => ?_, fun q q0 q1 => ?_⟩ (fun z a1 b1 c1 d d2 d3 d4 d5 => by rw [hz, jm_off1 d2, jm_off1 d5, jm_off1 a1, jm_off1 b1]) ?_ ?_ ?_ ?_ ?_ ?_⟩
                                                  · rw [hz, hz]
                                                    show jm_cpy (μ 2) (μ 2) (40 * a + i) (40 * b + j) n q = jm_cpy (μ 99) (μ 99) (40 * a + i) (40 * b + j) n q
                                                    unfold jm_cpy
                                                    split
                                                    · exact hit _ (by omega) (by omega)
                                                    · exact hit q q0 q1
                                                  · rw [hz, hz, hz, hz]
                                                    exact hlan q q0 q1
                                                  · rw [hz]; rfl
                                                  · rw [hz]; rfl
                                                  · rw [hz]; rfl
                                                  · rw [hz]; rfl
                                                  · rw [hz, hz]; rfl
                                                  · rw [hz, hz]
                                                    exact hfa
                                                · have e : (fun z => if 40 * b + j ≤ z ∧ z < 40 * b + j + 0 then μ48 99 (40 * a + i + (z - (40 * b + j))) else μ48 99 z) = μ48 99 := by
                                                    funext z
                                                    rw [if_neg (by omega)]
                                                  rw [e, jm_uc_id]
                                            · first
                                              | (exfalso; omega)
                                              | skip
                                                refine jv_iconst rfl rfl ?_
                                                refine jv_goto rfl rfl ?_
                                                refine jv_istoreK (L2 := [some (.inr (.inr 94)), some (.inl a), some (.inl i), some (.inl b), some (.inl j), some (.inl n), some (.inl 1), none, none]) rfl rfl rfl ?_
                                                refine jv_iconst rfl rfl ?_
                                                refine jv_istoreK (L2 := [some (.inr (.inr 94)), some (.inl a), some (.inl i), some (.inl b), some (.inl j), some (.inl n), some (.inl 1), some (.inl 0), none]) rfl rfl rfl ?_
                                                refine mo_copy_b (by omega) (by omega) (by omega) (by omega) (by omega) (by omega) (μ0 := μ48) (fun μz eμz => ?_) 101 0 _ μ48 (by omega) (by omega) (by omega) ?_
                                                · have hz : ∀ z, μz z = jm_uc (jm_uc (jm_uc (jm_uc μ 2 (jm_cpy (μ 2) (μ 2) (40 * a + i) (40 * b + j) n)) 0 (jm_u1 (μ 0) 11 0)) 99 (jm_cpy (μ 99) (μ 99) (40 * a + i) (40 * b + j) n)) 94 (jm_u1 (μ 94) 10 0) z := by
                                                    intro z
                                                    rw [eμz, ecb, eca]
                                                    rfl
                                                  refine ⟨rfl, jI_rowsC hI ⟨fun q q0 q1 => ?_, fun q q0 q1 => ?_⟩ (fun z a1 b1 c1 d d2 d3 d4 d5 => by rw [hz, jm_off1 d2, jm_off1 d5, jm_off1 a1, jm_off1 b1]) ?_ ?_ ?_ ?_ ?_ ?_⟩
                                                  · rw [hz, hz]
                                                    show jm_cpy (μ 2) (μ 2) (40 * a + i) (40 * b + j) n q = jm_cpy (μ 99) (μ 99) (40 * a + i) (40 * b + j) n q
                                                    unfold jm_cpy
                                                    split
                                                    · exact hit _ (by omega) (by omega)
                                                    · exact hit q q0 q1
                                                  · rw [hz, hz, hz, hz]
                                                    exact hlan q q0 q1
                                                  · rw [hz]; rfl
                                                  · rw [hz]; rfl
                                                  · rw [hz]; rfl
                                                  · rw [hz]; rfl
                                                  · rw [hz, hz]; rfl
                                                  · rw [hz, hz]
                                                    exact hfa
                                                · have e : (fun z => if 40 * b + j + n - 0 ≤ z ∧ z < 40 * b + j + n then μ48 99 (40 * a + i + (z - (40 * b + j))) else μ48 99 z) = μ48 99 := by
                                                    funext z
                                                    rw [if_neg (by omega)]
                                                  rw [e, jm_uc_id]
                                        · first
                                          | (exfalso; omega)
                                          | skip
                                            show jV _ _ jm_p_X10_copy _ 46 [some (.inr (.inr 94)), some (.inl a), some (.inl i), some (.inl b), some (.inl j), some (.inl n), none, none, none] [.inl 0] μ48
                                            refine jv_if_neF rfl rfl (by decide) ?_
                                            refine jv_aload_n rfl rfl rfl (by decide) ?_
                                            refine jv_iconst rfl rfl ?_
                                            refine jv_callV1 rfl rfl rfl rfl ⟨by decide, rfl⟩ (Nat.le_of_ble_eq_true rfl) (mo_find (by omega) (fun ν49 eν49 => ?_))
                                            show jV _ _ jm_p_X10_copy _ 50 [some (.inr (.inr 94)), some (.inl a), some (.inl i), some (.inl b), some (.inl j), some (.inl n), none, none, none] [.inl (-1000010 - 2)] ν49
                                            refine jv_ireturn rfl (Or.inl rfl) ?_
                                            exact ⟨jv_one (by omega), jI_find hI eμ48 eν49⟩
                                    · first
                                      | (exfalso; omega)
                                      | skip
                                        show jV _ _ jm_p_X10_copy _ 40 [some (.inr (.inr 94)), some (.inl a), some (.inl i), some (.inl b), some (.inl j), some (.inl n), none, none, none] [.inl 0] μ48
                                        refine jv_if_eqT rfl rfl (by decide) ?_
                                        refine jv_aload_n rfl rfl rfl (by decide) ?_
                                        refine jv_iconst rfl rfl ?_
                                        refine jv_callV1 rfl rfl rfl rfl ⟨by decide, rfl⟩ (Nat.le_of_ble_eq_true rfl) (mo_find (by omega) (fun ν49_1 eν49_1 => ?_))
                                        show jV _ _ jm_p_X10_copy _ 50 [some (.inr (.inr 94)), some (.inl a), some (.inl i), some (.inl b), some (.inl j), some (.inl n), none, none, none] [.inl (-1000010 - 2)] ν49_1
                                        refine jv_ireturn rfl (Or.inl rfl) ?_
                                        exact ⟨jv_one (by omega), jI_find hI eμ48 eν49_1⟩
                                · first
                                  | (exfalso; omega)
                                  | skip
                                    refine jv_aload_n rfl rfl rfl (by decide) ?_
                                    refine jv_iconst rfl rfl ?_
                                    refine jv_callV1 rfl rfl rfl rfl ⟨by decide, rfl⟩ (Nat.le_of_ble_eq_true rfl) (mo_find (by omega) (fun ν33 eν33 => ?_))
                                    show jV _ _ jm_p_X10_copy _ 34 [some (.inr (.inr 94)), some (.inl a), some (.inl i), some (.inl b), some (.inl j), some (.inl n), none, none, none] [.inl (-1000010 - 5)] ν33
                                    refine jv_ireturn rfl (Or.inl rfl) ?_
                                    exact ⟨jv_one (by omega), jI_find hI eμ48 eν33⟩
                            · first
                              | (exfalso; omega)
                              | skip
                                refine jv_aload_n rfl rfl rfl (by decide) ?_
                                refine jv_iconst rfl rfl ?_
                                refine jv_callV1 rfl rfl rfl rfl ⟨by decide, rfl⟩ (Nat.le_of_ble_eq_true rfl) (mo_find (by omega) (fun ν20_1 eν20_1 => ?_))
                                show jV _ _ jm_p_X10_copy _ 21 [some (.inr (.inr 94)), some (.inl a), some (.inl i), some (.inl b), some (.inl j), some (.inl n), none, none, none] [.inl (-1000010 - 1)] ν20_1
                                refine jv_ireturn rfl (Or.inl rfl) ?_
                                exact ⟨jv_one (by omega), jI_find hI eμ48 eν20_1⟩
                    · first
                      | (exfalso; omega)
                      | skip
                        show jV _ _ jm_p_X10_copy _ 5 [some (.inr (.inr 94)), some (.inl a), some (.inl i), some (.inl b), some (.inl j), some (.inl n), none, none, none] [.inl 0] μ48
                        refine jv_if_neF rfl rfl (by decide) ?_
                        refine jv_ldc rfl rfl ?_
                        refine jv_ireturn rfl (Or.inl rfl) ?_
                        exact ⟨jv_one (by omega), by exfalso; omega⟩
                · first
                  | (exfalso; omega)
                  | skip
                    show jV _ _ jm_p_X10_copy _ 2 [some (.inr (.inr 94)), some (.inl a), some (.inl i), some (.inl b), some (.inl j), some (.inl n), none, none, none] [.inl 0] μ48
                    refine jv_if_eqT rfl rfl (by decide) ?_
                    refine jv_ldc rfl rfl ?_
                    refine jv_ireturn rfl (Or.inl rfl) ?_
                    exact ⟨jv_one (by omega), by exfalso; omega⟩
            · show jV _ _ jm_p_X9_copy _ 38 [some (.inr (.inr 0)), some (.inl a), some (.inl i), some (.inl b), some (.inl j), some (.inl n)] [.inl 0] μ
              refine jv_if_eqT rfl rfl (by decide) ?_
              refine jv_aload_n rfl rfl rfl (by decide) ?_
              refine jv_iconst rfl rfl ?_
              refine jv_callV1 rfl rfl rfl rfl ⟨by decide, rfl⟩ (Nat.le_of_ble_eq_true rfl) (cl_found (by omega) (fun μ48_1 eμ48_1 => ?_))
              show jV _ _ jm_p_X9_copy _ 49 [some (.inr (.inr 0)), some (.inl a), some (.inl i), some (.inl b), some (.inl j), some (.inl n)] [.inl (-1000010 - 2)] μ48_1
              refine jv_ireturn rfl (Or.inl rfl) ?_
              refine ⟨_, rfl, ?_⟩
              have f97a : μ48_1 97 a = μ 97 a := by rw [eμ48_1]; rfl
              have f97b : μ48_1 97 b = μ 97 b := by rw [eμ48_1]; rfl
              have f98a : μ48_1 98 a = μ 98 a := by rw [eμ48_1]; rfl
              have f98b : μ48_1 98 b = μ 98 b := by rw [eμ48_1]; rfl
              refine jv_enter (d := 199) jm_p_X10_copy [some (.inr (.inr 94)), some (.inl a), some (.inl i), some (.inl b), some (.inl j), some (.inl n), none, none, none] rfl rfl rfl (Nat.le_of_ble_eq_true rfl) rfl rfl ?_
              refine jv_iload_n rfl rfl rfl ?_
              refine jv_callS1 rfl rfl rfl (Nat.le_of_ble_eq_true rfl) (mo_isRow (fun b1 => ?_) (fun b1 => ?_))
              · first
                | (exfalso; omega)
                | skip
                  show jV _ _ jm_p_X10_copy _ 2 [some (.inr (.inr 94)), some (.inl a), some (.inl i), some (.inl b), some (.inl j), some (.inl n), none, none, none] [.inl 1] μ48_1
                  refine jv_if_eqF rfl rfl (by decide) ?_
                  refine jv_iload_n rfl rfl rfl ?_
                  refine jv_callS1 rfl rfl rfl (Nat.le_of_ble_eq_true rfl) (mo_isRow (fun b4 => ?_) (fun b4 => ?_))
                  · first
                    | (exfalso; omega)
                    | skip
                      show jV _ _ jm_p_X10_copy _ 5 [some (.inr (.inr 94)), some (.inl a), some (.inl i), some (.inl b), some (.inl j), some (.inl n), none, none, none] [.inl 1] μ48_1
                      refine jv_if_neT rfl rfl (by decide) ?_
                      refine jv_aload_n rfl rfl rfl (by decide) ?_
                      refine jv_getr (w := 98) rfl rfl rfl ⟨by decide, rfl⟩ rfl rfl ?_
                      refine jv_iload_n rfl rfl rfl ?_
                      refine jv_iaload rfl rfl (by decide) rfl ⟨by omega, by omega⟩ ?_
                      refine jv_if_lt rfl rfl rfl (fun c12 => ?_) (fun c12 => ?_)
                      · first
                        | (exfalso; omega)
                        | skip
                          refine jv_aload_n rfl rfl rfl (by decide) ?_
                          refine jv_iconst rfl rfl ?_
                          refine jv_callV1 rfl rfl rfl rfl ⟨by decide, rfl⟩ (Nat.le_of_ble_eq_true rfl) (mo_find (by omega) (fun ν20 eν20 => ?_))
                          show jV _ _ jm_p_X10_copy _ 21 [some (.inr (.inr 94)), some (.inl a), some (.inl i), some (.inl b), some (.inl j), some (.inl n), none, none, none] [.inl (-1000010 - 1)] ν20
                          refine jv_ireturn rfl (Or.inl rfl) ?_
                          exact ⟨jv_one (by omega), jI_find hI eμ48_1 eν20⟩
                      · first
                        | (exfalso; omega)
                        | skip
                          refine jv_aload_n rfl rfl rfl (by decide) ?_
                          refine jv_getr (w := 98) rfl rfl rfl ⟨by decide, rfl⟩ rfl rfl ?_
                          refine jv_iload_n rfl rfl rfl ?_
                          refine jv_iaload rfl rfl (by decide) rfl ⟨by omega, by omega⟩ ?_
                          refine jv_if_ge rfl rfl rfl (fun c17 => ?_) (fun c17 => ?_)
                          · first
                            | (exfalso; omega)
                            | skip
                              refine jv_aload_n rfl rfl rfl (by decide) ?_
                              refine jv_getr (w := 97) rfl rfl rfl ⟨by decide, rfl⟩ rfl rfl ?_
                              refine jv_iload_n rfl rfl rfl ?_
                              refine jv_iaload rfl rfl (by decide) rfl ⟨by omega, by omega⟩ ?_
                              refine jv_aload_n rfl rfl rfl (by decide) ?_
                              refine jv_getr (w := 97) rfl rfl rfl ⟨by decide, rfl⟩ rfl rfl ?_
                              refine jv_iload_n rfl rfl rfl ?_
                              refine jv_iaload rfl rfl (by decide) rfl ⟨by omega, by omega⟩ ?_
                              refine jv_icmp_eq rfl rfl rfl (fun c30 => ?_) (fun c30 => ?_)
                              · first
                                | (exfalso; omega)
                                | skip
                                  refine jv_aload_n rfl rfl rfl (by decide) ?_
                                  refine jv_iload_n rfl rfl rfl ?_
                                  refine jv_iload_n rfl rfl rfl ?_
                                  refine jv_iload rfl rfl rfl ?_
                                  refine jv_callV3 rfl rfl rfl rfl ⟨by decide, rfl⟩ (Nat.le_of_ble_eq_true rfl) (mo_isSpan (by omega) (by omega) (by omega) (by omega) (fun b39 => ?_) (fun b39 => ?_))
                                  · first
                                    | (exfalso; omega)
                                    | skip
                                      show jV _ _ jm_p_X10_copy _ 40 [some (.inr (.inr 94)), some (.inl a), some (.inl i), some (.inl b), some (.inl j), some (.inl n), none, none, none] [.inl 1] μ48_1
                                      refine jv_if_eqF rfl rfl (by decide) ?_
                                      refine jv_aload_n rfl rfl rfl (by decide) ?_
                                      refine jv_iload_n rfl rfl rfl ?_
                                      refine jv_iload rfl rfl rfl ?_
                                      refine jv_iload rfl rfl rfl ?_
                                      refine jv_callV3 rfl rfl rfl rfl ⟨by decide, rfl⟩ (Nat.le_of_ble_eq_true rfl) (mo_isSpan (by omega) (by omega) (by omega) (by omega) (fun b45 => ?_) (fun b45 => ?_))
                                      · first
                                        | (exfalso; omega)
                                        | skip
                                          show jV _ _ jm_p_X10_copy _ 46 [some (.inr (.inr 94)), some (.inl a), some (.inl i), some (.inl b), some (.inl j), some (.inl n), none, none, none] [.inl 1] μ48_1
                                          refine jv_if_neT rfl rfl (by decide) ?_
                                          refine jv_iload_n rfl rfl rfl ?_
                                          refine jv_iload rfl rfl rfl ?_
                                          refine jv_icmp_ge rfl rfl rfl (fun c53 => ?_) (fun c53 => ?_)
                                          · first
                                            | (exfalso; omega)
                                            | skip
                                              refine jv_iconst rfl rfl ?_
                                              refine jv_istoreK (L2 := [some (.inr (.inr 94)), some (.inl a), some (.inl i), some (.inl b), some (.inl j), some (.inl n), some (.inl 0), none, none]) rfl rfl rfl ?_
                                              refine jv_iconst rfl rfl ?_
                                              refine jv_istoreK (L2 := [some (.inr (.inr 94)), some (.inl a), some (.inl i), some (.inl b), some (.inl j), some (.inl n), some (.inl 0), some (.inl 0), none]) rfl rfl rfl ?_
                                              refine mo_copy_f (by omega) (by omega) (by omega) (by omega) (by omega) (by omega) (μ0 := μ48_1) (fun μz eμz => ?_) 101 0 _ μ48_1 (by omega) (by omega) (by omega) ?_
                                              · have hz : ∀ z, μz z = jm_uc (jm_uc (jm_uc (jm_uc μ 2 (jm_cpy (μ 2) (μ 2) (40 * a + i) (40 * b + j) n)) 0 (jm_u1 (μ 0) 11 0)) 99 (jm_cpy (μ 99) (μ 99) (40 * a + i) (40 * b + j) n)) 94 (jm_u1 (μ 94) 10 0) z := by
                                                  intro z
                                                  rw [eμz, ecb, eca]
                                                  rfl
                                                refine ⟨rfl, jI_rowsC hI ⟨fun q q0 q1 => ?_, fun q q0 q1 => ?_⟩ (fun z a1 b1 c1 d d2 d3 d4 d5 => by rw [hz, jm_off1 d2, jm_off1 d5, jm_off1 a1, jm_off1 b1]) ?_ ?_ ?_ ?_ ?_ ?_⟩
                                                · rw [hz, hz]
                                                  show jm_cpy (μ 2) (μ 2) (40 * a + i) (40 * b + j) n q = jm_cpy (μ 99) (μ 99) (40 * a + i) (40 * b + j) n q
                                                  unfold jm_cpy
                                                  split
                                                  · exact hit _ (by omega) (by omega)
                                                  · exact hit q q0 q1
                                                · rw [hz, hz, hz, hz]
                                                  exact hlan q q0 q1
                                                · rw [hz]; rfl
                                                · rw [hz]; rfl
                                                · rw [hz]; rfl
                                                · rw [hz]; rfl
                                                · rw [hz, hz]; rfl
                                                · rw [hz, hz]
                                                  exact hfa
                                              · have e : (fun z => if 40 * b + j ≤ z ∧ z < 40 * b + j + 0 then μ48_1 99 (40 * a + i + (z - (40 * b + j))) else μ48_1 99 z) = μ48_1 99 := by
                                                  funext z
                                                  rw [if_neg (by omega)]
                                                rw [e, jm_uc_id]
                                          · first
                                            | (exfalso; omega)
                                            | skip
                                              refine jv_iconst rfl rfl ?_
                                              refine jv_goto rfl rfl ?_
                                              refine jv_istoreK (L2 := [some (.inr (.inr 94)), some (.inl a), some (.inl i), some (.inl b), some (.inl j), some (.inl n), some (.inl 1), none, none]) rfl rfl rfl ?_
                                              refine jv_iconst rfl rfl ?_
                                              refine jv_istoreK (L2 := [some (.inr (.inr 94)), some (.inl a), some (.inl i), some (.inl b), some (.inl j), some (.inl n), some (.inl 1), some (.inl 0), none]) rfl rfl rfl ?_
                                              refine mo_copy_b (by omega) (by omega) (by omega) (by omega) (by omega) (by omega) (μ0 := μ48_1) (fun μz eμz => ?_) 101 0 _ μ48_1 (by omega) (by omega) (by omega) ?_
                                              · have hz : ∀ z, μz z = jm_uc (jm_uc (jm_uc (jm_uc μ 2 (jm_cpy (μ 2) (μ 2) (40 * a + i) (40 * b + j) n)) 0 (jm_u1 (μ 0) 11 0)) 99 (jm_cpy (μ 99) (μ 99) (40 * a + i) (40 * b + j) n)) 94 (jm_u1 (μ 94) 10 0) z := by
                                                  intro z
                                                  rw [eμz, ecb, eca]
                                                  rfl
                                                refine ⟨rfl, jI_rowsC hI ⟨fun q q0 q1 => ?_, fun q q0 q1 => ?_⟩ (fun z a1 b1 c1 d d2 d3 d4 d5 => by rw [hz, jm_off1 d2, jm_off1 d5, jm_off1 a1, jm_off1 b1]) ?_ ?_ ?_ ?_ ?_ ?_⟩
                                                · rw [hz, hz]
                                                  show jm_cpy (μ 2) (μ 2) (40 * a + i) (40 * b + j) n q = jm_cpy (μ 99) (μ 99) (40 * a + i) (40 * b + j) n q
                                                  unfold jm_cpy
                                                  split
                                                  · exact hit _ (by omega) (by omega)
                                                  · exact hit q q0 q1
                                                · rw [hz, hz, hz, hz]
                                                  exact hlan q q0 q1
                                                · rw [hz]; rfl
                                                · rw [hz]; rfl
                                                · rw [hz]; rfl
                                                · rw [hz]; rfl
                                                · rw [hz, hz]; rfl
                                                · rw [hz, hz]
                                                  exact hfa
                                              · have e : (fun z => if 40 * b + j + n - 0 ≤ z ∧ z < 40 * b + j + n then μ48_1 99 (40 * a + i + (z - (40 * b + j))) else μ48_1 99 z) = μ48_1 99 := by
                                                  funext z
                                                  rw [if_neg (by omega)]
                                                rw [e, jm_uc_id]
                                      · first
                                        | (exfalso; omega)
                                        | skip
                                          show jV _ _ jm_p_X10_copy _ 46 [some (.inr (.inr 94)), some (.inl a), some (.inl i), some (.inl b), some (.inl j), some (.inl n), none, none, none] [.inl 0] μ48_1
                                          refine jv_if_neF rfl rfl (by decide) ?_
                                          refine jv_aload_n rfl rfl rfl (by decide) ?_
                                          refine jv_iconst rfl rfl ?_
                                          refine jv_callV1 rfl rfl rfl rfl ⟨by decide, rfl⟩ (Nat.le_of_ble_eq_true rfl) (mo_find (by omega) (fun ν49 eν49 => ?_))
                                          show jV _ _ jm_p_X10_copy _ 50 [some (.inr (.inr 94)), some (.inl a), some (.inl i), some (.inl b), some (.inl j), some (.inl n), none, none, none] [.inl (-1000010 - 2)] ν49
                                          refine jv_ireturn rfl (Or.inl rfl) ?_
                                          exact ⟨jv_one (by omega), jI_find hI eμ48_1 eν49⟩
                                  · first
                                    | (exfalso; omega)
                                    | skip
                                      show jV _ _ jm_p_X10_copy _ 40 [some (.inr (.inr 94)), some (.inl a), some (.inl i), some (.inl b), some (.inl j), some (.inl n), none, none, none] [.inl 0] μ48_1
                                      refine jv_if_eqT rfl rfl (by decide) ?_
                                      refine jv_aload_n rfl rfl rfl (by decide) ?_
                                      refine jv_iconst rfl rfl ?_
                                      refine jv_callV1 rfl rfl rfl rfl ⟨by decide, rfl⟩ (Nat.le_of_ble_eq_true rfl) (mo_find (by omega) (fun ν49_1 eν49_1 => ?_))
                                      show jV _ _ jm_p_X10_copy _ 50 [some (.inr (.inr 94)), some (.inl a), some (.inl i), some (.inl b), some (.inl j), some (.inl n), none, none, none] [.inl (-1000010 - 2)] ν49_1
                                      refine jv_ireturn rfl (Or.inl rfl) ?_
                                      exact ⟨jv_one (by omega), jI_find hI eμ48_1 eν49_1⟩
                              · first
                                | (exfalso; omega)
                                | skip
                                  refine jv_aload_n rfl rfl rfl (by decide) ?_
                                  refine jv_iconst rfl rfl ?_
                                  refine jv_callV1 rfl rfl rfl rfl ⟨by decide, rfl⟩ (Nat.le_of_ble_eq_true rfl) (mo_find (by omega) (fun ν33 eν33 => ?_))
                                  show jV _ _ jm_p_X10_copy _ 34 [some (.inr (.inr 94)), some (.inl a), some (.inl i), some (.inl b), some (.inl j), some (.inl n), none, none, none] [.inl (-1000010 - 5)] ν33
                                  refine jv_ireturn rfl (Or.inl rfl) ?_
                                  exact ⟨jv_one (by omega), jI_find hI eμ48_1 eν33⟩
                          · first
                            | (exfalso; omega)
                            | skip
                              refine jv_aload_n rfl rfl rfl (by decide) ?_
                              refine jv_iconst rfl rfl ?_
                              refine jv_callV1 rfl rfl rfl rfl ⟨by decide, rfl⟩ (Nat.le_of_ble_eq_true rfl) (mo_find (by omega) (fun ν20_1 eν20_1 => ?_))
                              show jV _ _ jm_p_X10_copy _ 21 [some (.inr (.inr 94)), some (.inl a), some (.inl i), some (.inl b), some (.inl j), some (.inl n), none, none, none] [.inl (-1000010 - 1)] ν20_1
                              refine jv_ireturn rfl (Or.inl rfl) ?_
                              exact ⟨jv_one (by omega), jI_find hI eμ48_1 eν20_1⟩
                  · first
                    | (exfalso; omega)
                    | skip
                      show jV _ _ jm_p_X10_copy _ 5 [some (.inr (.inr 94)), some (.inl a), some (.inl i), some (.inl b), some (.inl j), some (.inl n), none, none, none] [.inl 0] μ48_1
                      refine jv_if_neF rfl rfl (by decide) ?_
                      refine jv_ldc rfl rfl ?_
                      refine jv_ireturn rfl (Or.inl rfl) ?_
                      exact ⟨jv_one (by omega), by exfalso; omega⟩
              · first
                | (exfalso; omega)
                | skip
                  show jV _ _ jm_p_X10_copy _ 2 [some (.inr (.inr 94)), some (.inl a), some (.inl i), some (.inl b), some (.inl j), some (.inl n), none, none, none] [.inl 0] μ48_1
                  refine jv_if_eqT rfl rfl (by decide) ?_
                  refine jv_ldc rfl rfl ?_
                  refine jv_ireturn rfl (Or.inl rfl) ?_
                  exact ⟨jv_one (by omega), by exfalso; omega⟩
          · show jV _ _ jm_p_X9_copy _ 27 [some (.inr (.inr 0)), some (.inl a), some (.inl i), some (.inl b), some (.inl j), some (.inl n)] [.inl 0] μ
            refine jv_if_neF rfl rfl (by decide) ?_
            refine jv_aload_n rfl rfl rfl (by decide) ?_
            refine jv_iconst rfl rfl ?_
            refine jv_callV1 rfl rfl rfl rfl ⟨by decide, rfl⟩ (Nat.le_of_ble_eq_true rfl) (cl_found (by omega) (fun μ30 eμ30 => ?_))
            show jV _ _ jm_p_X9_copy _ 31 [some (.inr (.inr 0)), some (.inl a), some (.inl i), some (.inl b), some (.inl j), some (.inl n)] [.inl (-1000010 - 5)] μ30
            refine jv_ireturn rfl (Or.inl rfl) ?_
            refine ⟨_, rfl, ?_⟩
            have f97a : μ30 97 a = μ 97 a := by rw [eμ30]; rfl
            have f97b : μ30 97 b = μ 97 b := by rw [eμ30]; rfl
            have f98a : μ30 98 a = μ 98 a := by rw [eμ30]; rfl
            have f98b : μ30 98 b = μ 98 b := by rw [eμ30]; rfl
            refine jv_enter (d := 199) jm_p_X10_copy [some (.inr (.inr 94)), some (.inl a), some (.inl i), some (.inl b), some (.inl j), some (.inl n), none, none, none] rfl rfl rfl (Nat.le_of_ble_eq_true rfl) rfl rfl ?_
            refine jv_iload_n rfl rfl rfl ?_
            refine jv_callS1 rfl rfl rfl (Nat.le_of_ble_eq_true rfl) (mo_isRow (fun b1 => ?_) (fun b1 => ?_))
            · first
              | (exfalso; omega)
              | skip
                show jV _ _ jm_p_X10_copy _ 2 [some (.inr (.inr 94)), some (.inl a), some (.inl i), some (.inl b), some (.inl j), some (.inl n), none, none, none] [.inl 1] μ30
                refine jv_if_eqF rfl rfl (by decide) ?_
                refine jv_iload_n rfl rfl rfl ?_
                refine jv_callS1 rfl rfl rfl (Nat.le_of_ble_eq_true rfl) (mo_isRow (fun b4 => ?_) (fun b4 => ?_))
                · first
                  | (exfalso; omega)
                  | skip
                    show jV _ _ jm_p_X10_copy _ 5 [some (.inr (.inr 94)), some (.inl a), some (.inl i), some (.inl b), some (.inl j), some (.inl n), none, none, none] [.inl 1] μ30
                    refine jv_if_neT rfl rfl (by decide) ?_
                    refine jv_aload_n rfl rfl rfl (by decide) ?_
                    refine jv_getr (w := 98) rfl rfl rfl ⟨by decide, rfl⟩ rfl rfl ?_
                    refine jv_iload_n rfl rfl rfl ?_
                    refine jv_iaload rfl rfl (by decide) rfl ⟨by omega, by omega⟩ ?_
                    refine jv_if_lt rfl rfl rfl (fun c12 => ?_) (fun c12 => ?_)
                    · first
                      | (exfalso; omega)
                      | skip
                        refine jv_aload_n rfl rfl rfl (by decide) ?_
                        refine jv_iconst rfl rfl ?_
                        refine jv_callV1 rfl rfl rfl rfl ⟨by decide, rfl⟩ (Nat.le_of_ble_eq_true rfl) (mo_find (by omega) (fun ν20 eν20 => ?_))
                        show jV _ _ jm_p_X10_copy _ 21 [some (.inr (.inr 94)), some (.inl a), some (.inl i), some (.inl b), some (.inl j), some (.inl n), none, none, none] [.inl (-1000010 - 1)] ν20
                        refine jv_ireturn rfl (Or.inl rfl) ?_
                        exact ⟨jv_one (by omega), jI_find hI eμ30 eν20⟩
                    · first
                      | (exfalso; omega)
                      | skip
                        refine jv_aload_n rfl rfl rfl (by decide) ?_
                        refine jv_getr (w := 98) rfl rfl rfl ⟨by decide, rfl⟩ rfl rfl ?_
                        refine jv_iload_n rfl rfl rfl ?_
                        refine jv_iaload rfl rfl (by decide) rfl ⟨by omega, by omega⟩ ?_
                        refine jv_if_ge rfl rfl rfl (fun c17 => ?_) (fun c17 => ?_)
                        · first
                          | (exfalso; omega)
                          | skip
                            refine jv_aload_n rfl rfl rfl (by decide) ?_
                            refine jv_getr (w := 97) rfl rfl rfl ⟨by decide, rfl⟩ rfl rfl ?_
                            refine jv_iload_n rfl rfl rfl ?_
                            refine jv_iaload rfl rfl (by decide) rfl ⟨by omega, by omega⟩ ?_
                            refine jv_aload_n rfl rfl rfl (by decide) ?_
                            refine jv_getr (w := 97) rfl rfl rfl ⟨by decide, rfl⟩ rfl rfl ?_
                            refine jv_iload_n rfl rfl rfl ?_
                            refine jv_iaload rfl rfl (by decide) rfl ⟨by omega, by omega⟩ ?_
                            refine jv_icmp_eq rfl rfl rfl (fun c30 => ?_) (fun c30 => ?_)
                            · first
                              | (exfalso; omega)
                              | skip
                                refine jv_aload_n rfl rfl rfl (by decide) ?_
                                refine jv_iload_n rfl rfl rfl ?_
                                refine jv_iload_n rfl rfl rfl ?_
                                refine jv_iload rfl rfl rfl ?_
                                refine jv_callV3 rfl rfl rfl rfl ⟨by decide, rfl⟩ (Nat.le_of_ble_eq_true rfl) (mo_isSpan (by omega) (by omega) (by omega) (by omega) (fun b39 => ?_) (fun b39 => ?_))
                                · first
                                  | (exfalso; omega)
                                  | skip
                                    show jV _ _ jm_p_X10_copy _ 40 [some (.inr (.inr 94)), some (.inl a), some (.inl i), some (.inl b), some (.inl j), some (.inl n), none, none, none] [.inl 1] μ30
                                    refine jv_if_eqF rfl rfl (by decide) ?_
                                    refine jv_aload_n rfl rfl rfl (by decide) ?_
                                    refine jv_iload_n rfl rfl rfl ?_
                                    refine jv_iload rfl rfl rfl ?_
                                    refine jv_iload rfl rfl rfl ?_
                                    refine jv_callV3 rfl rfl rfl rfl ⟨by decide, rfl⟩ (Nat.le_of_ble_eq_true rfl) (mo_isSpan (by omega) (by omega) (by omega) (by omega) (fun b45 => ?_) (fun b45 => ?_))
                                    · first
                                      | (exfalso; omega)
                                      | skip
                                        show jV _ _ jm_p_X10_copy _ 46 [some (.inr (.inr 94)), some (.inl a), some (.inl i), some (.inl b), some (.inl j), some (.inl n), none, none, none] [.inl 1] μ30
                                        refine jv_if_neT rfl rfl (by decide) ?_
                                        refine jv_iload_n rfl rfl rfl ?_
                                        refine jv_iload rfl rfl rfl ?_
                                        refine jv_icmp_ge rfl rfl rfl (fun c53 => ?_) (fun c53 => ?_)
                                        · first
                                          | (exfalso; omega)
                                          | skip
                                            refine jv_iconst rfl rfl ?_
                                            refine jv_istoreK (L2 := [some (.inr (.inr 94)), some (.inl a), some (.inl i), some (.inl b), some (.inl j), some (.inl n), some (.inl 0), none, none]) rfl rfl rfl ?_
                                            refine jv_iconst rfl rfl ?_
                                            refine jv_istoreK (L2 := [some (.inr (.inr 94)), some (.inl a), some (.inl i), some (.inl b), some (.inl j), some (.inl n), some (.inl 0), some (.inl 0), none]) rfl rfl rfl ?_
                                            refine mo_copy_f (by omega) (by omega) (by omega) (by omega) (by omega) (by omega) (μ0 := μ30) (fun μz eμz => ?_) 101 0 _ μ30 (by omega) (by omega) (by omega) ?_
                                            · have hz : ∀ z, μz z = jm_uc (jm_uc (jm_uc (jm_uc μ 2 (jm_cpy (μ 2) (μ 2) (40 * a + i) (40 * b + j) n)) 0 (jm_u1 (μ 0) 11 0)) 99 (jm_cpy (μ 99) (μ 99) (40 * a + i) (40 * b + j) n)) 94 (jm_u1 (μ 94) 10 0) z := by
                                                intro z
                                                rw [eμz, ecb, eca]
                                                rfl
                                              refine ⟨rfl, jI_rowsC hI ⟨fun q q0 q1 => ?_, fun q q0 q1 => ?_⟩ (fun z a1 b1 c1 d d2 d3 d4 d5 => by rw [hz, jm_off1 d2, jm_off1 d5, jm_off1 a1, jm_off1 b1]) ?_ ?_ ?_ ?_ ?_ ?_⟩
                                              · rw [hz, hz]
                                                show jm_cpy (μ 2) (μ 2) (40 * a + i) (40 * b + j) n q = jm_cpy (μ 99) (μ 99) (40 * a + i) (40 * b + j) n q
                                                unfold jm_cpy
                                                split
                                                · exact hit _ (by omega) (by omega)
                                                · exact hit q q0 q1
                                              · rw [hz, hz, hz, hz]
                                                exact hlan q q0 q1
                                              · rw [hz]; rfl
                                              · rw [hz]; rfl
                                              · rw [hz]; rfl
                                              · rw [hz]; rfl
                                              · rw [hz, hz]; rfl
                                              · rw [hz, hz]
                                                exact hfa
                                            · have e : (fun z => if 40 * b + j ≤ z ∧ z < 40 * b + j + 0 then μ30 99 (40 * a + i + (z - (40 * b + j))) else μ30 99 z) = μ30 99 := by
                                                funext z
                                                rw [if_neg (by omega)]
                                              rw [e, jm_uc_id]
                                        · first
                                          | (exfalso; omega)
                                          | skip
                                            refine jv_iconst rfl rfl ?_
                                            refine jv_goto rfl rfl ?_
                                            refine jv_istoreK (L2 := [some (.inr (.inr 94)), some (.inl a), some (.inl i), some (.inl b), some (.inl j), some (.inl n), some (.inl 1), none, none]) rfl rfl rfl ?_
                                            refine jv_iconst rfl rfl ?_
                                            refine jv_istoreK (L2 := [some (.inr (.inr 94)), some (.inl a), some (.inl i), some (.inl b), some (.inl j), some (.inl n), some (.inl 1), some (.inl 0), none]) rfl rfl rfl ?_
                                            refine mo_copy_b (by omega) (by omega) (by omega) (by omega) (by omega) (by omega) (μ0 := μ30) (fun μz eμz => ?_) 101 0 _ μ30 (by omega) (by omega) (by omega) ?_
                                            · have hz : ∀ z, μz z = jm_uc (jm_uc (jm_uc (jm_uc μ 2 (jm_cpy (μ 2) (μ 2) (40 * a + i) (40 * b + j) n)) 0 (jm_u1 (μ 0) 11 0)) 99 (jm_cpy (μ 99) (μ 99) (40 * a + i) (40 * b + j) n)) 94 (jm_u1 (μ 94) 10 0) z := by
                                                intro z
                                                rw [eμz, ecb, eca]
                                                rfl
                                              refine ⟨rfl, jI_rowsC hI ⟨fun q q0 q1 => ?_, fun q q0 q1 => ?_⟩ (fun z a1 b1 c1 d d2 d3 d4 d5 => by rw [hz, jm_off1 d2, jm_off1 d5, jm_off1 a1, jm_off1 b1]) ?_ ?_ ?_ ?_ ?_ ?_⟩
                                              · rw [hz, hz]
                                                show jm_cpy (μ 2) (μ 2) (40 * a + i) (40 * b + j) n q = jm_cpy (μ 99) (μ 99) (40 * a + i) (40 * b + j) n q
                                                unfold jm_cpy
                                                split
                                                · exact hit _ (by omega) (by omega)
                                                · exact hit q q0 q1
                                              · rw [hz, hz, hz, hz]
                                                exact hlan q q0 q1
                                              · rw [hz]; rfl
                                              · rw [hz]; rfl
                                              · rw [hz]; rfl
                                              · rw [hz]; rfl
                                              · rw [hz, hz]; rfl
                                              · rw [hz, hz]
                                                exact hfa
                                            · have e : (fun z => if 40 * b + j + n - 0 ≤ z ∧ z < 40 * b + j + n then μ30 99 (40 * a + i + (z - (40 * b + j))) else μ30 99 z) = μ30 99 := by
                                                funext z
                                                rw [if_neg (by omega)]
                                              rw [e, jm_uc_id]
                                    · first
                                      | (exfalso; omega)
                                      | skip
                                        show jV _ _ jm_p_X10_copy _ 46 [some (.inr (.inr 94)), some (.inl a), some (.inl i), some (.inl b), some (.inl j), some (.inl n), none, none, none] [.inl 0] μ30
                                        refine jv_if_neF rfl rfl (by decide) ?_
                                        refine jv_aload_n rfl rfl rfl (by decide) ?_
                                        refine jv_iconst rfl rfl ?_
                                        refine jv_callV1 rfl rfl rfl rfl ⟨by decide, rfl⟩ (Nat.le_of_ble_eq_true rfl) (mo_find (by omega) (fun ν49 eν49 => ?_))
                                        show jV _ _ jm_p_X10_copy _ 50 [some (.inr (.inr 94)), some (.inl a), some (.inl i), some (.inl b), some (.inl j), some (.inl n), none, none, none] [.inl (-1000010 - 2)] ν49
                                        refine jv_ireturn rfl (Or.inl rfl) ?_
                                        exact ⟨jv_one (by omega), jI_find hI eμ30 eν49⟩
                                · first
                                  | (exfalso; omega)
                                  | skip
                                    show jV _ _ jm_p_X10_copy _ 40 [some (.inr (.inr 94)), some (.inl a), some (.inl i), some (.inl b), some (.inl j), some (.inl n), none, none, none] [.inl 0] μ30
                                    refine jv_if_eqT rfl rfl (by decide) ?_
                                    refine jv_aload_n rfl rfl rfl (by decide) ?_
                                    refine jv_iconst rfl rfl ?_
                                    refine jv_callV1 rfl rfl rfl rfl ⟨by decide, rfl⟩ (Nat.le_of_ble_eq_true rfl) (mo_find (by omega) (fun ν49_1 eν49_1 => ?_))
                                    show jV _ _ jm_p_X10_copy _ 50 [some (.inr (.inr 94)), some (.inl a), some (.inl i), some (.inl b), some (.inl j), some (.inl n), none, none, none] [.inl (-1000010 - 2)] ν49_1
                                    refine jv_ireturn rfl (Or.inl rfl) ?_
                                    exact ⟨jv_one (by omega), jI_find hI eμ30 eν49_1⟩
                            · first
                              | (exfalso; omega)
                              | skip
                                refine jv_aload_n rfl rfl rfl (by decide) ?_
                                refine jv_iconst rfl rfl ?_
                                refine jv_callV1 rfl rfl rfl rfl ⟨by decide, rfl⟩ (Nat.le_of_ble_eq_true rfl) (mo_find (by omega) (fun ν33 eν33 => ?_))
                                show jV _ _ jm_p_X10_copy _ 34 [some (.inr (.inr 94)), some (.inl a), some (.inl i), some (.inl b), some (.inl j), some (.inl n), none, none, none] [.inl (-1000010 - 5)] ν33
                                refine jv_ireturn rfl (Or.inl rfl) ?_
                                exact ⟨jv_one (by omega), jI_find hI eμ30 eν33⟩
                        · first
                          | (exfalso; omega)
                          | skip
                            refine jv_aload_n rfl rfl rfl (by decide) ?_
                            refine jv_iconst rfl rfl ?_
                            refine jv_callV1 rfl rfl rfl rfl ⟨by decide, rfl⟩ (Nat.le_of_ble_eq_true rfl) (mo_find (by omega) (fun ν20_1 eν20_1 => ?_))
                            show jV _ _ jm_p_X10_copy _ 21 [some (.inr (.inr 94)), some (.inl a), some (.inl i), some (.inl b), some (.inl j), some (.inl n), none, none, none] [.inl (-1000010 - 1)] ν20_1
                            refine jv_ireturn rfl (Or.inl rfl) ?_
                            exact ⟨jv_one (by omega), jI_find hI eμ30 eν20_1⟩
                · first
                  | (exfalso; omega)
                  | skip
                    show jV _ _ jm_p_X10_copy _ 5 [some (.inr (.inr 94)), some (.inl a), some (.inl i), some (.inl b), some (.inl j), some (.inl n), none, none, none] [.inl 0] μ30
                    refine jv_if_neF rfl rfl (by decide) ?_
                    refine jv_ldc rfl rfl ?_
                    refine jv_ireturn rfl (Or.inl rfl) ?_
                    exact ⟨jv_one (by omega), by exfalso; omega⟩
            · first
              | (exfalso; omega)
              | skip
                show jV _ _ jm_p_X10_copy _ 2 [some (.inr (.inr 94)), some (.inl a), some (.inl i), some (.inl b), some (.inl j), some (.inl n), none, none, none] [.inl 0] μ30
                refine jv_if_eqT rfl rfl (by decide) ?_
                refine jv_ldc rfl rfl ?_
                refine jv_ireturn rfl (Or.inl rfl) ?_
                exact ⟨jv_one (by omega), by exfalso; omega⟩
