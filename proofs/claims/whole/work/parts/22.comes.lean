set_option maxRecDepth 10000 in
set_option maxHeartbeats 1000000 in
theorem mo_comesAt_l {X : jm_X} {d : Nat} {Q : jv_P} {base c : Int} {μ0 : jm_M} {t : Int → Int} (hb : 0 ≤ base ∧ base ≤ 1674) (hc : 0 ≤ c ∧ c < 6) (hw : jt_wf t) (hcf : jt_cf t 100000) (k : Q [.inl (jt_y t c (t 0).toNat)] (jm_uc μ0 95 (jt_in (μ0 95) base (jt_come t c)))) : ∀ (n : Nat) (m y : Int) (o5 : Option jm_V) (μ : jm_M), 0 ≤ m → m ≤ t 0 → t 0 - m < n → y = jt_y t c m.toNat → μ = jm_uc μ0 95 (jt_in (μ0 95) base (jt_part t c m)) →
    jV X (d + 2) jm_p_X10_comesAt Q 11 [some (.inr (.inr 94)), some (.inl base), some (.inl c), some (.inl y), some (.inl m), o5] [] μ := by
  have hw0 := hw.1
  have hcc := hcf c hc.1 hc.2
  intro n
  induction n with
  | zero =>
    intro m y o5 μ hm0 hm1 hmn hy hμ
    exfalso
    omega
  | succ n ih =>
    intro m y o5 μ hm0 hm1 hmn hy hμ
    have hin : ∀ k, 0 ≤ k → k < 62 → jt_part t c m k = μ 95 (base + k) := by
      intro k k0 k1
      rw [hμ, jm_uc_self, jt_in_at k0 k1]
    have hwμ : jt_wf (fun k => μ 95 (base + k)) := jt_wf_congr hin (jt_part_wf hw hc.1 hc.2 (by omega))
    have hn : μ 95 (base + 0) = t 0 := by rw [← hin 0 (by omega) (by omega), jt_part_out (by omega) (by omega)]
    have hyr : 0 ≤ y ∧ y ≤ 60 := by rw [hy]; exact jt_y_r hw hc.1 hc.2 m.toNat (by omega)
    have hfw := (hw.2.2.2.2.2.2.2 c hc.1 hc.2).2.2.1
    have hf1 : μ 95 (base + 44 + c) = t (44 + c) := by rw [Int.add_assoc base 44 c, ← hin (44 + c) (by omega) (by omega), jt_part_out (by omega) (by omega)]
    have hcm : μ 95 (base + 56 + c) = t (56 + c) := by rw [Int.add_assoc base 56 c, ← hin (56 + c) (by omega) (by omega), jt_part_out (by omega) (by omega)]
    have hby : m < 4 → jt_by (fun k => μ 95 (base + k)) c m y = jt_by t c m y := fun h4 => by rw [← jt_by_congr hin hc.1 hc.2 hm0 h4, jt_by_part hw hc.1 hc.2 (by omega) hm0 h4 (Int.le_refl m)]
    have hbr : m < 4 → 0 ≤ jt_by t c m y ∧ jt_by t c m y ≤ y := fun h4 => jt_by_r hw hc.1 hc.2 hm0 h4 hyr
    have hsr : ∀ k, 8 ≤ k → k < 32 → 0 ≤ μ 95 (base + k) ∧ μ 95 (base + k) ≤ 60 := hwμ.2.2.2.2.2.1
    have hsr2 : m < 4 → 0 ≤ μ 95 (base + 8 + 6 * m + μ 95 (base + 44 + c)) ∧ μ 95 (base + 8 + 6 * m + μ 95 (base + 44 + c)) ≤ 60 := fun h4 => by
      have := hsr (8 + 6 * m + μ 95 (base + 44 + c)) (by omega) (by omega)
      rw [← Int.add_assoc, ← Int.add_assoc] at this
      exact this
    refine jv_iload rfl rfl rfl ?_
    refine jv_aload_n rfl rfl rfl (by decide) ?_
    refine jv_getr (w := 95) rfl rfl rfl ⟨by decide, rfl⟩ rfl rfl ?_
    refine jv_iload_n rfl rfl rfl ?_
    refine jv_iconst rfl rfl ?_
    refine jv_iadd rfl rfl ⟨by omega, by omega⟩ ?_
    refine jv_iaload rfl rfl (by decide) rfl ⟨by omega, by omega⟩ ?_
    refine jv_icmp_ge rfl rfl rfl (fun c18 => ?_) (fun c18 => ?_)
    · refine jv_aload_n rfl rfl rfl (by decide) ?_
      refine jv_getr (w := 95) rfl rfl rfl ⟨by decide, rfl⟩ rfl rfl ?_
      refine jv_iload_n rfl rfl rfl ?_
      refine jv_bipush rfl rfl ?_
      refine jv_iadd rfl rfl ⟨by omega, by omega⟩ ?_
      refine jv_iload_n rfl rfl rfl ?_
      refine jv_iadd rfl rfl ⟨by omega, by omega⟩ ?_
      refine jv_dup2 rfl rfl ?_
      refine jv_iaload rfl rfl (by decide) rfl ⟨by omega, by omega⟩ ?_
      refine jv_iconst rfl rfl ?_
      refine jv_iadd rfl rfl ⟨by omega, by omega⟩ ?_
      refine jv_iastore rfl rfl rfl (by decide) ⟨by omega, by omega⟩ (fun μ66 eμ66 => ?_)
      refine jv_iload_n rfl rfl rfl ?_
      refine jv_ireturn rfl (Or.inl rfl) ?_
      have hm4 : m = t 0 := by omega
      have e2 : μ66 = jm_uc μ0 95 (jt_in (μ0 95) base (jt_come t c)) := by
        rw [eμ66, hμ, jm_uc2]
        congr 1
        funext j
        simp only [jm_u1, jm_uc_self]
        by_cases hj : j = base + 56 + c
        · subst hj
          rw [if_pos rfl, Int.add_assoc base 56 c, jt_in_at (by omega) (by omega), jt_in_at (by omega) (by omega), hm4]
          unfold jt_come
          rw [if_pos rfl, jt_part_out (by omega) hw0.2]
        · rw [if_neg hj]
          unfold jt_in
          split
          · unfold jt_come
            rw [if_neg (by omega), hm4]
          · rfl
      rw [e2, hy, hm4]
      exact k
    · refine jv_aload_n rfl rfl rfl (by decide) ?_
      refine jv_iload_n rfl rfl rfl ?_
      refine jv_iload_n rfl rfl rfl ?_
      refine jv_iload rfl rfl rfl ?_
      refine jv_iload_n rfl rfl rfl ?_
      refine jv_callV4 rfl rfl rfl rfl ⟨by decide, rfl⟩ (Nat.le_of_ble_eq_true rfl) (mo_leavesOn (by omega) (by omega) (by omega) (by omega) hwμ ?_)
      show jV _ _ jm_p_X10_comesAt _ 25 [some (.inr (.inr 94)), some (.inl base), some (.inl c), some (.inl y), some (.inl m), o5] [.inl (jt_by (fun k => μ 95 (base + k)) c m y)] μ
      refine jv_istore (fun x => [some (.inr (.inr 94)), some (.inl base), some (.inl c), some (.inl y), some (.inl m), some (.inl x)]) rfl rfl (fun _ => rfl) (fun x5_25 ex5_25 => ?_)
      have h4 : m < 4 := by omega
      have ex5_25' := ex5_25.trans (hby h4)
      have hbr' := hbr h4
      have hsr' := hsr2 h4
      refine jv_aload_n rfl rfl rfl (by decide) ?_
      refine jv_getr (w := 95) rfl rfl rfl ⟨by decide, rfl⟩ rfl rfl ?_
      refine jv_iload_n rfl rfl rfl ?_
      refine jv_bipush rfl rfl ?_
      refine jv_iadd rfl rfl ⟨by omega, by omega⟩ ?_
      refine jv_bipush rfl rfl ?_
      refine jv_iload rfl rfl rfl ?_
      refine jv_imul rfl rfl ⟨by omega, by omega⟩ ?_
      refine jv_iadd rfl rfl ⟨by omega, by omega⟩ ?_
      refine jv_aload_n rfl rfl rfl (by decide) ?_
      refine jv_getr (w := 95) rfl rfl rfl ⟨by decide, rfl⟩ rfl rfl ?_
      refine jv_iload_n rfl rfl rfl ?_
      refine jv_bipush rfl rfl ?_
      refine jv_iadd rfl rfl ⟨by omega, by omega⟩ ?_
      refine jv_iload_n rfl rfl rfl ?_
      refine jv_iadd rfl rfl ⟨by omega, by omega⟩ ?_
      refine jv_iaload rfl rfl (by decide) rfl ⟨by omega, by omega⟩ ?_
      refine jv_iadd rfl rfl ⟨by omega, by omega⟩ ?_
      refine jv_dup2 rfl rfl ?_
      refine jv_iaload rfl rfl (by decide) rfl ⟨by omega, by omega⟩ ?_
      refine jv_iload rfl rfl rfl ?_
      refine jv_iadd rfl rfl ⟨by omega, by omega⟩ ?_
      refine jv_iastore rfl rfl rfl (by decide) ⟨by omega, by omega⟩ (fun μ48 eμ48 => ?_)
      refine jv_iload_n rfl rfl rfl ?_
      refine jv_iload rfl rfl rfl ?_
      refine jv_isub rfl rfl ⟨by omega, by omega⟩ ?_
      refine jv_istore_n (fun x => [some (.inr (.inr 94)), some (.inl base), some (.inl c), some (.inl x), some (.inl m), some (.inl x5_25)]) rfl rfl (fun _ => rfl) (fun x3_52 ex3_52 => ?_)
      refine jv_iinc (fun x => [some (.inr (.inr 94)), some (.inl base), some (.inl c), some (.inl x3_52), some (.inl x), some (.inl x5_25)]) rfl rfl rfl ⟨by omega, by omega⟩ (fun _ => rfl) (fun x4_53 ex4_53 => ?_)
      refine jv_goto rfl rfl ?_
      refine ih x4_53 x3_52 _ μ48 (by omega) (by omega) (by omega) ?_ ?_
      · rw [ex3_52, ex4_53, show (m + 1).toNat = m.toNat + 1 by omega]
        simp only [jt_y]
        rw [ex5_25', show ((m.toNat : Nat) : Int) = m by omega, ← hy]
      · rw [eμ48, hf1, hμ, jm_uc2]
        congr 1
        funext j
        rw [ex4_53]
        simp only [jm_u1, jm_uc_self]
        by_cases hj : j = base + 8 + 6 * m + t (44 + c)
        · rw [if_pos hj, hj]
          have ej : base + 8 + 6 * m + t (44 + c) = base + (8 + 6 * m + t (44 + c)) := by omega
          rw [ej, jt_in_at (by omega) (by omega), jt_in_at (by omega) (by omega), jt_part_s hfw hm0 h4, if_pos rfl, ex5_25', ← hy]
        · rw [if_neg hj]
          unfold jt_in
          split
          · rw [jt_part_s hfw hm0 h4, if_neg (by omega)]
          · rfl
set_option maxRecDepth 10000 in
theorem mo_comesAt {X : jm_X} {d : Nat} {Q : jv_P} {μ : jm_M} {base c : Int} (hb : 0 ≤ base ∧ base ≤ 1674) (hc : 0 ≤ c ∧ c < 6) (hw : jt_wf (fun k => μ 95 (base + k))) (hcf : jt_cf (fun k => μ 95 (base + k)) 100000) (k : Q [.inl (jt_y (fun k => μ 95 (base + k)) c (μ 95 (base + 0)).toNat)] (jm_uc μ 95 (jt_in (μ 95) base (jt_come (fun k => μ 95 (base + k)) c)))) : cV X (d + 3) 169 [.inr (.inr 94), .inl base, .inl c] μ Q := by
  refine jv_enter (d := d + 2) jm_p_X10_comesAt [some (.inr (.inr 94)), some (.inl base), some (.inl c), none, none, none] rfl rfl rfl (Nat.le_of_ble_eq_true rfl) rfl rfl ?_
  refine jv_aload_n rfl rfl rfl (by decide) ?_
  refine jv_getr (w := 95) rfl rfl rfl ⟨by decide, rfl⟩ rfl rfl ?_
  refine jv_iload_n rfl rfl rfl ?_
  refine jv_bipush rfl rfl ?_
  refine jv_iadd rfl rfl ⟨by omega, by omega⟩ ?_
  refine jv_iload_n rfl rfl rfl ?_
  refine jv_iadd rfl rfl ⟨by omega, by omega⟩ ?_
  refine jv_iaload rfl rfl (by decide) rfl ⟨by omega, by omega⟩ ?_
  refine jv_istore_n (fun x => [some (.inr (.inr 94)), some (.inl base), some (.inl c), some (.inl x), none, none]) rfl rfl (fun _ => rfl) (fun x3_8 ex3_8 => ?_)
  refine jv_iconst rfl rfl ?_
  refine jv_istoreK (L2 := [some (.inr (.inr 94)), some (.inl base), some (.inl c), some (.inl x3_8), some (.inl 0), none]) rfl rfl rfl ?_
  refine mo_comesAt_l (t := (fun k => μ 95 (base + k))) hb hc hw hcf k 10 0 x3_8 _ μ (by omega) hw.1.1 (by have := hw.1.2; dsimp only at this ⊢; omega) ?_ ?_
  · rw [ex3_8, Int.add_assoc]
    rfl
  · rw [jt_part_0, jt_in_self, jm_uc_id]
