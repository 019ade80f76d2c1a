/-! the reference reads -/
def jrm (μ : jm_M) (g : Int → Int) (N a : Int) : Prop := μ 94 8 = N ∧ μ 94 13 = a ∧ (0 ≤ a ∧ a ≤ N ∧ N ≤ 100) ∧ ∀ j, 0 ≤ j → j < N → μ 100 j = g j ∧ 0 ≤ g j ∧ g j ≤ 255
def jfm (μ0 μ : jm_M) : Prop := (∀ z, z ≠ 94 → z ≠ 95 → μ z = μ0 z) ∧ (∀ j, j ≠ 13 → j ≠ 14 → j ≠ 15 → μ 94 j = μ0 94 j) ∧ ∀ j, j < 1674 → μ 95 j = μ0 95 j
theorem jfm_id (μ : jm_M) : jfm μ μ := ⟨fun _ _ _ => rfl, fun _ _ _ _ => rfl, fun _ _ => rfl⟩
theorem jfm_tr {a b c : jm_M} (h : jfm a b) (k : jfm b c) : jfm a c := ⟨fun z p q => by rw [k.1 z p q, h.1 z p q], fun j p q r => by rw [k.2.1 j p q r, h.2.1 j p q r], fun j q => by rw [k.2.2 j q, h.2.2 j q]⟩
/-- only slot s of the reference's own numbers -/
theorem jfm_94 {μ μ2 : jm_M} {s v : Int} (hs : s = 13 ∨ s = 14 ∨ s = 15) (e : μ2 = jm_uc μ 94 (jm_u1 (μ 94) s v)) : jfm μ μ2 ∧ μ2 95 = μ 95 ∧ μ2 100 = μ 100 := by
  refine ⟨⟨fun z p q => by rw [e, jm_off1 p], fun j p q r => ?_, fun j q => by rw [e, jm_off1 (by decide)]⟩, by rw [e, jm_off1 (by decide)], by rw [e, jm_off1 (by decide)]⟩
  rw [e, jm_uc_self]
  unfold jm_u1
  rw [if_neg (by omega)]
theorem jT_st {μ μ2 : jm_M} {T : Int → Int} {i v : Int} (h : jT μ T) (hi : 0 ≤ i) (e : μ2 = jm_uc μ 95 (jm_u1 (μ 95) (1674 + i) v)) : jT μ2 (jm_u1 T i v) ∧ jfm μ μ2 ∧ μ2 94 = μ 94 ∧ μ2 100 = μ 100 := by
  refine ⟨fun j j0 j1 => ?_, ⟨fun z p q => by rw [e, jm_off1 q], fun j _ _ _ => by rw [e, jm_off1 (by decide)], fun j q => ?_⟩, by rw [e, jm_off1 (by decide)], by rw [e, jm_off1 (by decide)]⟩
  · rw [e, jm_uc_self]
    unfold jm_u1
    by_cases q : j = i
    · rw [if_pos (by omega), if_pos q]
    · rw [if_neg (by omega), if_neg q]
      exact h j j0 j1
  · rw [e, jm_uc_self]
    unfold jm_u1
    rw [if_neg (by omega)]
theorem jrm_same {μ μ2 : jm_M} {g : Int → Int} {N a : Int} (h : jrm μ g N a) (e8 : μ2 94 8 = μ 94 8) (e13 : μ2 94 13 = μ 94 13) (e : μ2 100 = μ 100) : jrm μ2 g N a := by
  unfold jrm at *
  rw [e8, e13, e]
  exact h
set_option maxRecDepth 10000 in
theorem mo_isLetter {X : jm_X} {d : Nat} {Q : jv_P} {μ : jm_M} {g : Int → Int} {N a c : Int} (hr : jrm μ g N a) (k1 : a < N ∧ g a = c → Q [.inl 1] μ) (k0 : ¬ (a < N ∧ g a = c) → Q [.inl 0] μ) : cV X (d + 1) 148 [.inr (.inr 94), .inl c] μ Q := by
  obtain ⟨h1, h2, h3, h6⟩ := id hr
  have h6a := h6 a h3.1
  refine jv_enter (d := d + 0) jm_p_X10_isLetter [some (.inr (.inr 94)), some (.inl c)] rfl rfl rfl (Nat.le_of_ble_eq_true rfl) rfl rfl ?_
  refine jv_aload_n rfl rfl rfl (by decide) ?_
  refine jv_geti rfl rfl rfl ⟨by decide, rfl⟩ (by decide) ?_
  rw [h2]
  refine jv_aload_n rfl rfl rfl (by decide) ?_
  refine jv_geti rfl rfl rfl ⟨by decide, rfl⟩ (by decide) ?_
  rw [h1]
  refine jv_icmp_ge rfl rfl rfl (fun c4 => ?_) (fun c4 => ?_)
  · refine jv_iconst rfl rfl ?_
    refine jv_ireturn rfl (Or.inr ⟨rfl, by decide⟩) ?_
    exact k0 (fun z => by omega)
  · refine jv_aload_n rfl rfl rfl (by decide) ?_
    refine jv_getr (w := 100) rfl rfl rfl ⟨by decide, rfl⟩ rfl rfl ?_
    refine jv_aload_n rfl rfl rfl (by decide) ?_
    refine jv_geti rfl rfl rfl ⟨by decide, rfl⟩ (by decide) ?_
    rw [h2]
    refine jv_iaload rfl rfl (by decide) rfl ⟨by omega, by omega⟩ ?_
    rw [(h6a (by omega)).1]
    refine jv_iload_n rfl rfl rfl ?_
    refine jv_icmp_ne rfl rfl rfl (fun c11 => ?_) (fun c11 => ?_)
    · refine jv_iconst rfl rfl ?_
      refine jv_ireturn rfl (Or.inr ⟨rfl, by decide⟩) ?_
      exact k0 (fun z => by omega)
    · refine jv_iconst rfl rfl ?_
      refine jv_goto rfl rfl ?_
      refine jv_ireturn rfl (Or.inr ⟨rfl, by decide⟩) ?_
      exact k1 ⟨by omega, by omega⟩
set_option maxRecDepth 10000 in
theorem mo_isFig {X : jm_X} {d : Nat} {Q : jv_P} {μ : jm_M} {g : Int → Int} {N a i : Int} (hr : jrm μ g N a) (hi : 0 ≤ i) (k1 : i < N ∧ 48 ≤ g i ∧ g i ≤ 57 → Q [.inl 1] μ) (k0 : ¬ (i < N ∧ 48 ≤ g i ∧ g i ≤ 57) → Q [.inl 0] μ) : cV X (d + 2) 149 [.inr (.inr 94), .inl i] μ Q := by
  obtain ⟨h1, h2, h3, h6⟩ := id hr
  have h6a := h6 i hi
  refine jv_enter (d := d + 1) jm_p_X10_isFigure [some (.inr (.inr 94)), some (.inl i)] rfl rfl rfl (Nat.le_of_ble_eq_true rfl) rfl rfl ?_
  refine jv_iload_n rfl rfl rfl ?_
  refine jv_aload_n rfl rfl rfl (by decide) ?_
  refine jv_geti rfl rfl rfl ⟨by decide, rfl⟩ (by decide) ?_
  rw [h1]
  refine jv_icmp_ge rfl rfl rfl (fun c3 => ?_) (fun c3 => ?_)
  · refine jv_iconst rfl rfl ?_
    refine jv_ireturn rfl (Or.inr ⟨rfl, by decide⟩) ?_
    exact k0 (fun z => by omega)
  · refine jv_aload_n rfl rfl rfl (by decide) ?_
    refine jv_getr (w := 100) rfl rfl rfl ⟨by decide, rfl⟩ rfl rfl ?_
    refine jv_iload_n rfl rfl rfl ?_
    refine jv_iaload rfl rfl (by decide) rfl ⟨by omega, by omega⟩ ?_
    rw [(h6a (by omega)).1]
    refine jv_i2l rfl rfl ?_
    refine jv_ldc2_w rfl rfl ?_
    refine jv_ldc2_w rfl rfl ?_
    refine jv_callS3 rfl rfl rfl (Nat.le_of_ble_eq_true rfl) (mo_in (fun b11 => ?_) (fun b11 => ?_))
    · show jV _ _ jm_p_X10_isFigure _ 12 [some (.inr (.inr 94)), some (.inl i)] [.inl 1] μ
      refine jv_if_eqF rfl rfl (by decide) ?_
      refine jv_iconst rfl rfl ?_
      refine jv_goto rfl rfl ?_
      refine jv_ireturn rfl (Or.inr ⟨rfl, by decide⟩) ?_
      exact k1 ⟨by omega, by omega, by omega⟩
    · show jV _ _ jm_p_X10_isFigure _ 12 [some (.inr (.inr 94)), some (.inl i)] [.inl 0] μ
      refine jv_if_eqT rfl rfl (by decide) ?_
      refine jv_iconst rfl rfl ?_
      refine jv_ireturn rfl (Or.inr ⟨rfl, by decide⟩) ?_
      exact k0 (fun z => by omega)
set_option maxRecDepth 10000 in
theorem mo_refuse {X : jm_X} {d : Nat} {Q : jv_P} {μ : jm_M} {w : Int} (k : ∀ μ2, μ2 = jm_uc μ 94 (jm_u1 (μ 94) 14 w) → Q [.inl 0] μ2) : cV X (d + 1) 150 [.inr (.inr 94), .inl w] μ Q := by
  refine jv_enter (d := d + 0) jm_p_X10_refuse [some (.inr (.inr 94)), some (.inl w)] rfl rfl rfl (Nat.le_of_ble_eq_true rfl) rfl rfl ?_
  refine jv_aload_n rfl rfl rfl (by decide) ?_
  refine jv_iload_n rfl rfl rfl ?_
  refine jv_puti rfl rfl rfl ⟨by decide, rfl⟩ (Or.inl rfl) (fun μ2 eμ2 => ?_)
  refine jv_iconst rfl rfl ?_
  refine jv_ireturn rfl (Or.inr ⟨rfl, by decide⟩) ?_
  exact k _ eμ2
set_option maxRecDepth 10000 in
theorem mo_sign {X : jm_X} {d : Nat} {Q : jv_P} {μ : jm_M} {g : Int → Int} {N a c : Int} (hr : jrm μ g N a) (k1 : ∀ μ2, jps g N a c = (0, a + 1, 0) → jrm μ2 g N (a + 1) → jfm μ μ2 → μ2 95 = μ 95 → μ2 94 15 = μ 94 15 → Q [.inl 1] μ2) (k0 : ∀ μ2, jps g N a c = (1, a, 0) → jfm μ μ2 → μ2 94 13 = a → μ2 94 14 = 1 → Q [.inl 0] μ2) : cV X (d + 2) 151 [.inr (.inr 94), .inl c] μ Q := by
  obtain ⟨h1, h2, h3, h6⟩ := id hr
  have h6a := h6 a h3.1
  refine jv_enter (d := d + 1) jm_p_X10_sign [some (.inr (.inr 94)), some (.inl c)] rfl rfl rfl (Nat.le_of_ble_eq_true rfl) rfl rfl ?_
  refine jv_aload_n rfl rfl rfl (by decide) ?_
  refine jv_iload_n rfl rfl rfl ?_
  refine jv_callV1 rfl rfl rfl rfl ⟨by decide, rfl⟩ (Nat.le_of_ble_eq_true rfl) (mo_isLetter hr (fun b2 => ?_) (fun b2 => ?_))
  · show jV _ _ jm_p_X10_sign _ 3 [some (.inr (.inr 94)), some (.inl c)] [.inl 1] μ
    refine jv_if_neT rfl rfl (by decide) ?_
    refine jv_aload_n rfl rfl rfl (by decide) ?_
    refine jv_dupr rfl rfl ?_
    refine jv_geti rfl rfl rfl ⟨by decide, rfl⟩ (by decide) ?_
    rw [h2]
    refine jv_iconst rfl rfl ?_
    refine jv_iadd rfl rfl ⟨by omega, by omega⟩ ?_
    refine jv_puti rfl rfl rfl ⟨by decide, rfl⟩ (Or.inl rfl) (fun μ13 eμ13 => ?_)
    refine jv_iconst rfl rfl ?_
    refine jv_ireturn rfl (Or.inr ⟨rfl, by decide⟩) ?_
    obtain ⟨f1, f2, f3⟩ := jfm_94 (Or.inl rfl) eμ13
    exact k1 _ (if_pos b2) ⟨by rw [eμ13]; exact h1, by rw [eμ13]; rfl, by omega, fun j j0 j1 => by rw [f3]; exact h6 j j0 j1⟩ f1 f2 (by rw [eμ13]; rfl)
  · show jV _ _ jm_p_X10_sign _ 3 [some (.inr (.inr 94)), some (.inl c)] [.inl 0] μ
    refine jv_if_neF rfl rfl (by decide) ?_
    refine jv_aload_n rfl rfl rfl (by decide) ?_
    refine jv_iconst rfl rfl ?_
    refine jv_callV1 rfl rfl rfl rfl ⟨by decide, rfl⟩ (Nat.le_of_ble_eq_true rfl) (mo_refuse (fun μ6 eμ6 => ?_))
    show jV _ _ jm_p_X10_sign _ 7 [some (.inr (.inr 94)), some (.inl c)] [.inl 0] μ6
    refine jv_ireturn rfl (Or.inr ⟨rfl, by decide⟩) ?_
    obtain ⟨f1, f2, f3⟩ := jfm_94 (Or.inr (Or.inl rfl)) eμ6
    exact k0 _ (if_neg b2) f1 (by rw [eμ6]; exact h2) (by rw [eμ6]; rfl)
set_option maxRecDepth 10000 in
set_option maxHeartbeats 1000000 in
theorem mo_readsN {X : jm_X} {d : Nat} {Q : jv_P} {μ : jm_M} {g : Int → Int} {N a lo hi : Int} (hr : jrm μ g N a) (k1 : ∀ b v μ2, jpn g N a lo hi = (0, b, v) → (lo ≤ v ∧ v ≤ hi) → jrm μ2 g N b → jfm μ μ2 → μ2 95 = μ 95 → μ2 94 15 = v → Q [.inl 1] μ2) (k0 : ∀ w μ2, jpn g N a lo hi = (w, a, 0) → (w = 1 ∨ w = 2) → jfm μ μ2 → μ2 94 13 = a → μ2 94 14 = w → Q [.inl 0] μ2) : cV X (d + 3) 152 [.inr (.inr 94), .inl lo, .inl hi] μ Q := by
  obtain ⟨h1, h2, h3, h6⟩ := id hr
  have h6a := h6 a h3.1
  have h6b := h6 (a + 1) (by omega)
  refine jv_enter (d := d + 2) jm_p_X10_readsNumber [some (.inr (.inr 94)), some (.inl lo), some (.inl hi), none] rfl rfl rfl (Nat.le_of_ble_eq_true rfl) rfl rfl ?_
  refine jv_aload_n rfl rfl rfl (by decide) ?_
  refine jv_aload_n rfl rfl rfl (by decide) ?_
  refine jv_geti rfl rfl rfl ⟨by decide, rfl⟩ (by decide) ?_
  rw [hr.2.1]
  refine jv_callV1 rfl rfl rfl rfl ⟨by decide, rfl⟩ (Nat.le_of_ble_eq_true rfl) (mo_isFig hr (by omega) (fun b3 => ?_) (fun b3 => ?_))
  · first
    | (exfalso; omega)
    | skip
      show jV _ _ jm_p_X10_readsNumber _ 4 [some (.inr (.inr 94)), some (.inl lo), some (.inl hi), none] [.inl 1] μ
      refine jv_if_eqF rfl rfl (by decide) ?_
      refine jv_aload_n rfl rfl rfl (by decide) ?_
      refine jv_aload_n rfl rfl rfl (by decide) ?_
      refine jv_geti rfl rfl rfl ⟨by decide, rfl⟩ (by decide) ?_
      rw [hr.2.1]
      refine jv_iconst rfl rfl ?_
      refine jv_iadd rfl rfl ⟨by omega, by omega⟩ ?_
      refine jv_callV1 rfl rfl rfl rfl ⟨by decide, rfl⟩ (Nat.le_of_ble_eq_true rfl) (mo_isFig hr (by omega) (fun b10 => ?_) (fun b10 => ?_))
      · first
        | (exfalso; omega)
        | skip
          show jV _ _ jm_p_X10_readsNumber _ 11 [some (.inr (.inr 94)), some (.inl lo), some (.inl hi), none] [.inl 1] μ
          refine jv_if_eqF rfl rfl (by decide) ?_
          refine jv_aload_n rfl rfl rfl (by decide) ?_
          refine jv_aload_n rfl rfl rfl (by decide) ?_
          refine jv_geti rfl rfl rfl ⟨by decide, rfl⟩ (by decide) ?_
          rw [hr.2.1]
          refine jv_iconst rfl rfl ?_
          refine jv_iadd rfl rfl ⟨by omega, by omega⟩ ?_
          refine jv_callV1 rfl rfl rfl rfl ⟨by decide, rfl⟩ (Nat.le_of_ble_eq_true rfl) (mo_isFig hr (by omega) (fun b17 => ?_) (fun b17 => ?_))
          · first
            | (exfalso; omega)
            | skip
              show jV _ _ jm_p_X10_readsNumber _ 18 [some (.inr (.inr 94)), some (.inl lo), some (.inl hi), none] [.inl 1] μ
              refine jv_if_eqF rfl rfl (by decide) ?_
              refine jv_aload_n rfl rfl rfl (by decide) ?_
              refine jv_iconst rfl rfl ?_
              refine jv_callV1 rfl rfl rfl rfl ⟨by decide, rfl⟩ (Nat.le_of_ble_eq_true rfl) (mo_refuse (fun μ21 eμ21 => ?_))
              show jV _ _ jm_p_X10_readsNumber _ 22 [some (.inr (.inr 94)), some (.inl lo), some (.inl hi), none] [.inl 0] μ21
              refine jv_ireturn rfl (Or.inr ⟨rfl, by decide⟩) ?_
              obtain ⟨f1, f2, f3⟩ := jfm_94 (Or.inr (Or.inl rfl)) eμ21
              refine k0 1 _ ?_ (Or.inl rfl) f1 (by rw [eμ21]; exact h2) (by rw [eμ21]; rfl)
              unfold jpn
              by_cases z0 : a < N ∧ 48 ≤ g a ∧ g a ≤ 57
              · rw [if_pos z0, if_pos (by first | assumption | (exfalso; omega)), if_pos (by first | assumption | (exfalso; omega))]
              · rw [if_neg z0]
          · first
            | (exfalso; omega)
            | skip
              show jV _ _ jm_p_X10_readsNumber _ 18 [some (.inr (.inr 94)), some (.inl lo), some (.inl hi), none] [.inl 0] μ
              refine jv_if_eqT rfl rfl (by decide) ?_
              refine jv_aload_n rfl rfl rfl (by decide) ?_
              refine jv_aload_n rfl rfl rfl (by decide) ?_
              refine jv_getr (w := 100) rfl rfl rfl ⟨by decide, rfl⟩ rfl rfl ?_
              refine jv_aload_n rfl rfl rfl (by decide) ?_
              refine jv_geti rfl rfl rfl ⟨by decide, rfl⟩ (by decide) ?_
              rw [hr.2.1]
              refine jv_iaload rfl rfl (by decide) rfl ⟨by omega, by omega⟩ ?_
              rw [(hr.2.2.2 a (by omega) (by omega)).1]
              refine jv_bipush rfl rfl ?_
              refine jv_isub rfl rfl ⟨by omega, by omega⟩ ?_
              refine jv_puti rfl rfl rfl ⟨by decide, rfl⟩ (Or.inl rfl) (fun μ31 eμ31 => ?_)
              obtain ⟨fμ31, gμ31, hμ31⟩ := jfm_94 (Or.inr (Or.inr rfl)) eμ31
              have Rμ31 : jrm μ31 g N a := jrm_same hr (by rw [eμ31]; rfl) (by rw [eμ31]; rfl) hμ31
              have Fμ31 : jfm μ μ31 := jfm_tr (jfm_id μ) fμ31
              have Eμ31 : μ31 95 = μ 95 := gμ31.trans rfl
              have Nμ31 : μ31 94 15 = ((g a) - 48) := by rw [eμ31]; rfl
              refine jv_aload_n rfl rfl rfl (by decide) ?_
              refine jv_aload_n rfl rfl rfl (by decide) ?_
              refine jv_geti rfl rfl rfl ⟨by decide, rfl⟩ (by decide) ?_
              rw [Rμ31.2.1]
              refine jv_iconst rfl rfl ?_
              refine jv_iadd rfl rfl ⟨by omega, by omega⟩ ?_
              refine jv_callV1 rfl rfl rfl rfl ⟨by decide, rfl⟩ (Nat.le_of_ble_eq_true rfl) (mo_isFig Rμ31 (by omega) (fun b37 => ?_) (fun b37 => ?_))
              · first
                | (exfalso; omega)
                | skip
                  show jV _ _ jm_p_X10_readsNumber _ 38 [some (.inr (.inr 94)), some (.inl lo), some (.inl hi), none] [.inl 1] μ31
                  refine jv_if_eqF rfl rfl (by decide) ?_
                  refine jv_iconst rfl rfl ?_
                  refine jv_goto rfl rfl ?_
                  refine jv_istore_nK (L2 := [some (.inr (.inr 94)), some (.inl lo), some (.inl hi), some (.inl 2)]) rfl rfl rfl ?_
                  refine jv_aload_n rfl rfl rfl (by decide) ?_
                  refine jv_iload_n rfl rfl rfl ?_
                  refine jv_iconst rfl rfl ?_
                  refine jv_icmp_neF rfl rfl (by decide) ?_
                  refine jv_bipush rfl rfl ?_
                  refine jv_aload_n rfl rfl rfl (by decide) ?_
                  refine jv_geti rfl rfl rfl ⟨by decide, rfl⟩ (by decide) ?_
                  rw [Nμ31]
                  refine jv_imul rfl rfl ⟨by omega, by omega⟩ ?_
                  refine jv_aload_n rfl rfl rfl (by decide) ?_
                  refine jv_getr (w := 100) rfl rfl rfl ⟨by decide, rfl⟩ rfl rfl ?_
                  refine jv_aload_n rfl rfl rfl (by decide) ?_
                  refine jv_geti rfl rfl rfl ⟨by decide, rfl⟩ (by decide) ?_
                  rw [Rμ31.2.1]
                  refine jv_iconst rfl rfl ?_
                  refine jv_iadd rfl rfl ⟨by omega, by omega⟩ ?_
                  refine jv_iaload rfl rfl (by decide) rfl ⟨by omega, by omega⟩ ?_
                  rw [(Rμ31.2.2.2 (a + 1) (by omega) (by omega)).1]
                  refine jv_iadd rfl rfl ⟨by omega, by omega⟩ ?_
                  refine jv_bipush rfl rfl ?_
                  refine jv_isub rfl rfl ⟨by omega, by omega⟩ ?_
                  refine jv_goto rfl rfl ?_
                  refine jv_puti rfl rfl rfl ⟨by decide, rfl⟩ (Or.inl rfl) (fun μ64 eμ64 => ?_)
                  obtain ⟨fμ64, gμ64, hμ64⟩ := jfm_94 (Or.inr (Or.inr rfl)) eμ64
                  have Rμ64 : jrm μ64 g N a := jrm_same Rμ31 (by rw [eμ64]; rfl) (by rw [eμ64]; rfl) hμ64
                  have Fμ64 : jfm μ μ64 := jfm_tr (Fμ31) fμ64
                  have Eμ64 : μ64 95 = μ 95 := gμ64.trans Eμ31
                  have Nμ64 : μ64 94 15 = (((10 * ((g a) - 48)) + (g (a + 1))) - 48) := by rw [eμ64]; rfl
                  refine jv_aload_n rfl rfl rfl (by decide) ?_
                  refine jv_geti rfl rfl rfl ⟨by decide, rfl⟩ (by decide) ?_
                  rw [Nμ64]
                  refine jv_i2l rfl rfl ?_
                  refine jv_iload_n rfl rfl rfl ?_
                  refine jv_i2l rfl rfl ?_
                  refine jv_iload_n rfl rfl rfl ?_
                  refine jv_i2l rfl rfl ?_
                  refine jv_callS3 rfl rfl rfl (Nat.le_of_ble_eq_true rfl) (mo_in (fun b72 => ?_) (fun b72 => ?_))
                  · first
                    | (exfalso; omega)
                    | skip
                      show jV _ _ jm_p_X10_readsNumber _ 73 [some (.inr (.inr 94)), some (.inl lo), some (.inl hi), some (.inl 2)] [.inl 1] μ64
                      refine jv_if_neT rfl rfl (by decide) ?_
                      refine jv_aload_n rfl rfl rfl (by decide) ?_
                      refine jv_dupr rfl rfl ?_
                      refine jv_geti rfl rfl rfl ⟨by decide, rfl⟩ (by decide) ?_
                      rw [Rμ64.2.1]
                      refine jv_iload_n rfl rfl rfl ?_
                      refine jv_iadd rfl rfl ⟨by omega, by omega⟩ ?_
                      refine jv_puti rfl rfl rfl ⟨by decide, rfl⟩ (Or.inl rfl) (fun μ83 eμ83 => ?_)
                      refine jv_iconst rfl rfl ?_
                      refine jv_ireturn rfl (Or.inr ⟨rfl, by decide⟩) ?_
                      have hjp : jpn g N a lo hi = jpw lo hi (((10 * ((g a) - 48)) + (g (a + 1))) - 48) a (a + 2) := by
                        unfold jpn
                        rw [if_pos (by first | assumption | (exfalso; omega)), if_pos (by first | assumption | (exfalso; omega)), if_neg (by first | assumption | (exfalso; omega)), show 10 * (g a - 48) + (g (a + 1) - 48) = (((10 * ((g a) - 48)) + (g (a + 1))) - 48) by omega]
                      obtain ⟨f1, f2, f3⟩ := jfm_94 (Or.inl rfl) eμ83
                      refine k1 (a + 2) (((10 * ((g a) - 48)) + (g (a + 1))) - 48) _ ?_ (by omega) ⟨by rw [eμ83]; exact Rμ64.1, by rw [eμ83]; rfl, by omega, fun j j0 j1 => by rw [f3]; exact Rμ64.2.2.2 j j0 j1⟩ (jfm_tr Fμ64 f1) (f2.trans Eμ64) (by rw [eμ83]; exact Nμ64)
                      rw [hjp]
                      unfold jpw
                      rw [if_pos (by omega)]
                  · first
                    | (exfalso; omega)
                    | skip
                      show jV _ _ jm_p_X10_readsNumber _ 73 [some (.inr (.inr 94)), some (.inl lo), some (.inl hi), some (.inl 2)] [.inl 0] μ64
                      refine jv_if_neF rfl rfl (by decide) ?_
                      refine jv_aload_n rfl rfl rfl (by decide) ?_
                      refine jv_iconst rfl rfl ?_
                      refine jv_callV1 rfl rfl rfl rfl ⟨by decide, rfl⟩ (Nat.le_of_ble_eq_true rfl) (mo_refuse (fun μ76 eμ76 => ?_))
                      show jV _ _ jm_p_X10_readsNumber _ 77 [some (.inr (.inr 94)), some (.inl lo), some (.inl hi), some (.inl 2)] [.inl 0] μ76
                      refine jv_ireturn rfl (Or.inr ⟨rfl, by decide⟩) ?_
                      have hjp : jpn g N a lo hi = jpw lo hi (((10 * ((g a) - 48)) + (g (a + 1))) - 48) a (a + 2) := by
                        unfold jpn
                        rw [if_pos (by first | assumption | (exfalso; omega)), if_pos (by first | assumption | (exfalso; omega)), if_neg (by first | assumption | (exfalso; omega)), show 10 * (g a - 48) + (g (a + 1) - 48) = (((10 * ((g a) - 48)) + (g (a + 1))) - 48) by omega]
                      obtain ⟨f1, f2, f3⟩ := jfm_94 (Or.inr (Or.inl rfl)) eμ76
                      refine k0 2 _ ?_ (Or.inr rfl) (jfm_tr Fμ64 f1) (by rw [eμ76]; exact Rμ64.2.1) (by rw [eμ76]; rfl)
                      rw [hjp]
                      unfold jpw
                      rw [if_neg (by omega)]
              · first
                | (exfalso; omega)
                | skip
                  show jV _ _ jm_p_X10_readsNumber _ 38 [some (.inr (.inr 94)), some (.inl lo), some (.inl hi), none] [.inl 0] μ31
                  refine jv_if_eqT rfl rfl (by decide) ?_
                  refine jv_iconst rfl rfl ?_
                  refine jv_istore_nK (L2 := [some (.inr (.inr 94)), some (.inl lo), some (.inl hi), some (.inl 1)]) rfl rfl rfl ?_
                  refine jv_aload_n rfl rfl rfl (by decide) ?_
                  refine jv_iload_n rfl rfl rfl ?_
                  refine jv_iconst rfl rfl ?_
                  refine jv_icmp_neT rfl rfl (by decide) ?_
                  refine jv_aload_n rfl rfl rfl (by decide) ?_
                  refine jv_geti rfl rfl rfl ⟨by decide, rfl⟩ (by decide) ?_
                  rw [Nμ31]
                  refine jv_puti rfl rfl rfl ⟨by decide, rfl⟩ (Or.inl rfl) (fun μ64_1 eμ64_1 => ?_)
                  obtain ⟨fμ64_1, gμ64_1, hμ64_1⟩ := jfm_94 (Or.inr (Or.inr rfl)) eμ64_1
                  have Rμ64_1 : jrm μ64_1 g N a := jrm_same Rμ31 (by rw [eμ64_1]; rfl) (by rw [eμ64_1]; rfl) hμ64_1
                  have Fμ64_1 : jfm μ μ64_1 := jfm_tr (Fμ31) fμ64_1
                  have Eμ64_1 : μ64_1 95 = μ 95 := gμ64_1.trans Eμ31
                  have Nμ64_1 : μ64_1 94 15 = ((g a) - 48) := by rw [eμ64_1]; rfl
                  refine jv_aload_n rfl rfl rfl (by decide) ?_
                  refine jv_geti rfl rfl rfl ⟨by decide, rfl⟩ (by decide) ?_
                  rw [Nμ64_1]
                  refine jv_i2l rfl rfl ?_
                  refine jv_iload_n rfl rfl rfl ?_
                  refine jv_i2l rfl rfl ?_
                  refine jv_iload_n rfl rfl rfl ?_
                  refine jv_i2l rfl rfl ?_
                  refine jv_callS3 rfl rfl rfl (Nat.le_of_ble_eq_true rfl) (mo_in (fun b72_1 => ?_) (fun b72_1 => ?_))
                  · first
                    | (exfalso; omega)
                    | skip
                      show jV _ _ jm_p_X10_readsNumber _ 73 [some (.inr (.inr 94)), some (.inl lo), some (.inl hi), some (.inl 1)] [.inl 1] μ64_1
                      refine jv_if_neT rfl rfl (by decide) ?_
                      refine jv_aload_n rfl rfl rfl (by decide) ?_
                      refine jv_dupr rfl rfl ?_
                      refine jv_geti rfl rfl rfl ⟨by decide, rfl⟩ (by decide) ?_
                      rw [Rμ64_1.2.1]
                      refine jv_iload_n rfl rfl rfl ?_
                      refine jv_iadd rfl rfl ⟨by omega, by omega⟩ ?_
                      refine jv_puti rfl rfl rfl ⟨by decide, rfl⟩ (Or.inl rfl) (fun μ83_1 eμ83_1 => ?_)
                      refine jv_iconst rfl rfl ?_
                      refine jv_ireturn rfl (Or.inr ⟨rfl, by decide⟩) ?_
                      have hjp : jpn g N a lo hi = jpw lo hi ((g a) - 48) a (a + 1) := by
                        unfold jpn
                        rw [if_pos (by first | assumption | (exfalso; omega)), if_neg (by first | assumption | (exfalso; omega))]
                      obtain ⟨f1, f2, f3⟩ := jfm_94 (Or.inl rfl) eμ83_1
                      refine k1 (a + 1) ((g a) - 48) _ ?_ (by omega) ⟨by rw [eμ83_1]; exact Rμ64_1.1, by rw [eμ83_1]; rfl, by omega, fun j j0 j1 => by rw [f3]; exact Rμ64_1.2.2.2 j j0 j1⟩ (jfm_tr Fμ64_1 f1) (f2.trans Eμ64_1) (by rw [eμ83_1]; exact Nμ64_1)
                      rw [hjp]
                      unfold jpw
                      rw [if_pos (by omega)]
                  · first
                    | (exfalso; omega)
                    | skip
                      show jV _ _ jm_p_X10_readsNumber _ 73 [some (.inr (.inr 94)), some (.inl lo), some (.inl hi), some (.inl 1)] [.inl 0] μ64_1
                      refine jv_if_neF rfl rfl (by decide) ?_
                      refine jv_aload_n rfl rfl rfl (by decide) ?_
                      refine jv_iconst rfl rfl ?_
                      refine jv_callV1 rfl rfl rfl rfl ⟨by decide, rfl⟩ (Nat.le_of_ble_eq_true rfl) (mo_refuse (fun μ76_1 eμ76_1 => ?_))
                      show jV _ _ jm_p_X10_readsNumber _ 77 [some (.inr (.inr 94)), some (.inl lo), some (.inl hi), some (.inl 1)] [.inl 0] μ76_1
                      refine jv_ireturn rfl (Or.inr ⟨rfl, by decide⟩) ?_
                      have hjp : jpn g N a lo hi = jpw lo hi ((g a) - 48) a (a + 1) := by
                        unfold jpn
                        rw [if_pos (by first | assumption | (exfalso; omega)), if_neg (by first | assumption | (exfalso; omega))]
                      obtain ⟨f1, f2, f3⟩ := jfm_94 (Or.inr (Or.inl rfl)) eμ76_1
                      refine k0 2 _ ?_ (Or.inr rfl) (jfm_tr Fμ64_1 f1) (by rw [eμ76_1]; exact Rμ64_1.2.1) (by rw [eμ76_1]; rfl)
                      rw [hjp]
                      unfold jpw
                      rw [if_neg (by omega)]
      · first
        | (exfalso; omega)
        | skip
          show jV _ _ jm_p_X10_readsNumber _ 11 [some (.inr (.inr 94)), some (.inl lo), some (.inl hi), none] [.inl 0] μ
          refine jv_if_eqT rfl rfl (by decide) ?_
          refine jv_aload_n rfl rfl rfl (by decide) ?_
          refine jv_aload_n rfl rfl rfl (by decide) ?_
          refine jv_getr (w := 100) rfl rfl rfl ⟨by decide, rfl⟩ rfl rfl ?_
          refine jv_aload_n rfl rfl rfl (by decide) ?_
          refine jv_geti rfl rfl rfl ⟨by decide, rfl⟩ (by decide) ?_
          rw [hr.2.1]
          refine jv_iaload rfl rfl (by decide) rfl ⟨by omega, by omega⟩ ?_
          rw [(hr.2.2.2 a (by omega) (by omega)).1]
          refine jv_bipush rfl rfl ?_
          refine jv_isub rfl rfl ⟨by omega, by omega⟩ ?_
          refine jv_puti rfl rfl rfl ⟨by decide, rfl⟩ (Or.inl rfl) (fun μ31_1 eμ31_1 => ?_)
          obtain ⟨fμ31_1, gμ31_1, hμ31_1⟩ := jfm_94 (Or.inr (Or.inr rfl)) eμ31_1
          have Rμ31_1 : jrm μ31_1 g N a := jrm_same hr (by rw [eμ31_1]; rfl) (by rw [eμ31_1]; rfl) hμ31_1
          have Fμ31_1 : jfm μ μ31_1 := jfm_tr (jfm_id μ) fμ31_1
          have Eμ31_1 : μ31_1 95 = μ 95 := gμ31_1.trans rfl
          have Nμ31_1 : μ31_1 94 15 = ((g a) - 48) := by rw [eμ31_1]; rfl
          refine jv_aload_n rfl rfl rfl (by decide) ?_
          refine jv_aload_n rfl rfl rfl (by decide) ?_
          refine jv_geti rfl rfl rfl ⟨by decide, rfl⟩ (by decide) ?_
          rw [Rμ31_1.2.1]
          refine jv_iconst rfl rfl ?_
          refine jv_iadd rfl rfl ⟨by omega, by omega⟩ ?_
          refine jv_callV1 rfl rfl rfl rfl ⟨by decide, rfl⟩ (Nat.le_of_ble_eq_true rfl) (mo_isFig Rμ31_1 (by omega) (fun b37_1 => ?_) (fun b37_1 => ?_))
          · first
            | (exfalso; omega)
            | skip
              show jV _ _ jm_p_X10_readsNumber _ 38 [some (.inr (.inr 94)), some (.inl lo), some (.inl hi), none] [.inl 1] μ31_1
              refine jv_if_eqF rfl rfl (by decide) ?_
              refine jv_iconst rfl rfl ?_
              refine jv_goto rfl rfl ?_
              refine jv_istore_nK (L2 := [some (.inr (.inr 94)), some (.inl lo), some (.inl hi), some (.inl 2)]) rfl rfl rfl ?_
              refine jv_aload_n rfl rfl rfl (by decide) ?_
              refine jv_iload_n rfl rfl rfl ?_
              refine jv_iconst rfl rfl ?_
              refine jv_icmp_neF rfl rfl (by decide) ?_
              refine jv_bipush rfl rfl ?_
              refine jv_aload_n rfl rfl rfl (by decide) ?_
              refine jv_geti rfl rfl rfl ⟨by decide, rfl⟩ (by decide) ?_
              rw [Nμ31_1]
              refine jv_imul rfl rfl ⟨by omega, by omega⟩ ?_
              refine jv_aload_n rfl rfl rfl (by decide) ?_
              refine jv_getr (w := 100) rfl rfl rfl ⟨by decide, rfl⟩ rfl rfl ?_
              refine jv_aload_n rfl rfl rfl (by decide) ?_
              refine jv_geti rfl rfl rfl ⟨by decide, rfl⟩ (by decide) ?_
              rw [Rμ31_1.2.1]
              refine jv_iconst rfl rfl ?_
              refine jv_iadd rfl rfl ⟨by omega, by omega⟩ ?_
              refine jv_iaload rfl rfl (by decide) rfl ⟨by omega, by omega⟩ ?_
              rw [(Rμ31_1.2.2.2 (a + 1) (by omega) (by omega)).1]
              refine jv_iadd rfl rfl ⟨by omega, by omega⟩ ?_
              refine jv_bipush rfl rfl ?_
              refine jv_isub rfl rfl ⟨by omega, by omega⟩ ?_
              refine jv_goto rfl rfl ?_
              refine jv_puti rfl rfl rfl ⟨by decide, rfl⟩ (Or.inl rfl) (fun μ64_2 eμ64_2 => ?_)
              obtain ⟨fμ64_2, gμ64_2, hμ64_2⟩ := jfm_94 (Or.inr (Or.inr rfl)) eμ64_2
              have Rμ64_2 : jrm μ64_2 g N a := jrm_same Rμ31_1 (by rw [eμ64_2]; rfl) (by rw [eμ64_2]; rfl) hμ64_2
              have Fμ64_2 : jfm μ μ64_2 := jfm_tr (Fμ31_1) fμ64_2
              have Eμ64_2 : μ64_2 95 = μ 95 := gμ64_2.trans Eμ31_1
              have Nμ64_2 : μ64_2 94 15 = (((10 * ((g a) - 48)) + (g (a + 1))) - 48) := by rw [eμ64_2]; rfl
              refine jv_aload_n rfl rfl rfl (by decide) ?_
              refine jv_geti rfl rfl rfl ⟨by decide, rfl⟩ (by decide) ?_
              rw [Nμ64_2]
              refine jv_i2l rfl rfl ?_
              refine jv_iload_n rfl rfl rfl ?_
              refine jv_i2l rfl rfl ?_
              refine jv_iload_n rfl rfl rfl ?_
              refine jv_i2l rfl rfl ?_
              refine jv_callS3 rfl rfl rfl (Nat.le_of_ble_eq_true rfl) (mo_in (fun b72_2 => ?_) (fun b72_2 => ?_))
              · first
                | (exfalso; omega)
                | skip
                  show jV _ _ jm_p_X10_readsNumber _ 73 [some (.inr (.inr 94)), some (.inl lo), some (.inl hi), some (.inl 2)] [.inl 1] μ64_2
                  refine jv_if_neT rfl rfl (by decide) ?_
                  refine jv_aload_n rfl rfl rfl (by decide) ?_
                  refine jv_dupr rfl rfl ?_
                  refine jv_geti rfl rfl rfl ⟨by decide, rfl⟩ (by decide) ?_
                  rw [Rμ64_2.2.1]
                  refine jv_iload_n rfl rfl rfl ?_
                  refine jv_iadd rfl rfl ⟨by omega, by omega⟩ ?_
                  refine jv_puti rfl rfl rfl ⟨by decide, rfl⟩ (Or.inl rfl) (fun μ83_2 eμ83_2 => ?_)
                  refine jv_iconst rfl rfl ?_
                  refine jv_ireturn rfl (Or.inr ⟨rfl, by decide⟩) ?_
                  have hjp : jpn g N a lo hi = jpw lo hi (((10 * ((g a) - 48)) + (g (a + 1))) - 48) a (a + 2) := by
                    unfold jpn
                    rw [if_pos (by first | assumption | (exfalso; omega)), if_pos (by first | assumption | (exfalso; omega)), if_neg (by first | assumption | (exfalso; omega)), show 10 * (g a - 48) + (g (a + 1) - 48) = (((10 * ((g a) - 48)) + (g (a + 1))) - 48) by omega]
                  obtain ⟨f1, f2, f3⟩ := jfm_94 (Or.inl rfl) eμ83_2
                  refine k1 (a + 2) (((10 * ((g a) - 48)) + (g (a + 1))) - 48) _ ?_ (by omega) ⟨by rw [eμ83_2]; exact Rμ64_2.1, by rw [eμ83_2]; rfl, by omega, fun j j0 j1 => by rw [f3]; exact Rμ64_2.2.2.2 j j0 j1⟩ (jfm_tr Fμ64_2 f1) (f2.trans Eμ64_2) (by rw [eμ83_2]; exact Nμ64_2)
                  rw [hjp]
                  unfold jpw
                  rw [if_pos (by omega)]
              · first
                | (exfalso; omega)
                | skip
                  show jV _ _ jm_p_X10_readsNumber _ 73 [some (.inr (.inr 94)), some (.inl lo), some (.inl hi), some (.inl 2)] [.inl 0] μ64_2
                  refine jv_if_neF rfl rfl (by decide) ?_
                  refine jv_aload_n rfl rfl rfl (by decide) ?_
                  refine jv_iconst rfl rfl ?_
                  refine jv_callV1 rfl rfl rfl rfl ⟨by decide, rfl⟩ (Nat.le_of_ble_eq_true rfl) (mo_refuse (fun μ76_2 eμ76_2 => ?_))
                  show jV _ _ jm_p_X10_readsNumber _ 77 [some (.inr (.inr 94)), some (.inl lo), some (.inl hi), some (.inl 2)] [.inl 0] μ76_2
                  refine jv_ireturn rfl (Or.inr ⟨rfl, by decide⟩) ?_
                  have hjp : jpn g N a lo hi = jpw lo hi (((10 * ((g a) - 48)) + (g (a + 1))) - 48) a (a + 2) := by
                    unfold jpn
                    rw [if_pos (by first | assumption | (exfalso; omega)), if_pos (by first | assumption | (exfalso; omega)), if_neg (by first | assumption | (exfalso; omega)), show 10 * (g a - 48) + (g (a + 1) - 48) = (((10 * ((g a) - 48)) + (g (a + 1))) - 48) by omega]
                  obtain ⟨f1, f2, f3⟩ := jfm_94 (Or.inr (Or.inl rfl)) eμ76_2
                  refine k0 2 _ ?_ (Or.inr rfl) (jfm_tr Fμ64_2 f1) (by rw [eμ76_2]; exact Rμ64_2.2.1) (by rw [eμ76_2]; rfl)
                  rw [hjp]
                  unfold jpw
                  rw [if_neg (by omega)]
          · first
            | (exfalso; omega)
            | skip
              show jV _ _ jm_p_X10_readsNumber _ 38 [some (.inr (.inr 94)), some (.inl lo), some (.inl hi), none] [.inl 0] μ31_1
              refine jv_if_eqT rfl rfl (by decide) ?_
              refine jv_iconst rfl rfl ?_
              refine jv_istore_nK (L2 := [some (.inr (.inr 94)), some (.inl lo), some (.inl hi), some (.inl 1)]) rfl rfl rfl ?_
              refine jv_aload_n rfl rfl rfl (by decide) ?_
              refine jv_iload_n rfl rfl rfl ?_
              refine jv_iconst rfl rfl ?_
              refine jv_icmp_neT rfl rfl (by decide) ?_
              refine jv_aload_n rfl rfl rfl (by decide) ?_
              refine jv_geti rfl rfl rfl ⟨by decide, rfl⟩ (by decide) ?_
              rw [Nμ31_1]
              refine jv_puti rfl rfl rfl ⟨by decide, rfl⟩ (Or.inl rfl) (fun μ64_3 eμ64_3 => ?_)
              obtain ⟨fμ64_3, gμ64_3, hμ64_3⟩ := jfm_94 (Or.inr (Or.inr rfl)) eμ64_3
              have Rμ64_3 : jrm μ64_3 g N a := jrm_same Rμ31_1 (by rw [eμ64_3]; rfl) (by rw [eμ64_3]; rfl) hμ64_3
              have Fμ64_3 : jfm μ μ64_3 := jfm_tr (Fμ31_1) fμ64_3
              have Eμ64_3 : μ64_3 95 = μ 95 := gμ64_3.trans Eμ31_1
              have Nμ64_3 : μ64_3 94 15 = ((g a) - 48) := by rw [eμ64_3]; rfl
              refine jv_aload_n rfl rfl rfl (by decide) ?_
              refine jv_geti rfl rfl rfl ⟨by decide, rfl⟩ (by decide) ?_
              rw [Nμ64_3]
              refine jv_i2l rfl rfl ?_
              refine jv_iload_n rfl rfl rfl ?_
              refine jv_i2l rfl rfl ?_
              refine jv_iload_n rfl rfl rfl ?_
              refine jv_i2l rfl rfl ?_
              refine jv_callS3 rfl rfl rfl (Nat.le_of_ble_eq_true rfl) (mo_in (fun b72_3 => ?_) (fun b72_3 => ?_))
              · first
                | (exfalso; omega)
                | skip
                  show jV _ _ jm_p_X10_readsNumber _ 73 [some (.inr (.inr 94)), some (.inl lo), some (.inl hi), some (.inl 1)] [.inl 1] μ64_3
                  refine jv_if_neT rfl rfl (by decide) ?_
                  refine jv_aload_n rfl rfl rfl (by decide) ?_
                  refine jv_dupr rfl rfl ?_
                  refine jv_geti rfl rfl rfl ⟨by decide, rfl⟩ (by decide) ?_
                  rw [Rμ64_3.2.1]
                  refine jv_iload_n rfl rfl rfl ?_
                  refine jv_iadd rfl rfl ⟨by omega, by omega⟩ ?_
                  refine jv_puti rfl rfl rfl ⟨by decide, rfl⟩ (Or.inl rfl) (fun μ83_3 eμ83_3 => ?_)
                  refine jv_iconst rfl rfl ?_
                  refine jv_ireturn rfl (Or.inr ⟨rfl, by decide⟩) ?_
                  have hjp : jpn g N a lo hi = jpw lo hi ((g a) - 48) a (a + 1) := by
                    unfold jpn
                    rw [if_pos (by first | assumption | (exfalso; omega)), if_neg (by first | assumption | (exfalso; omega))]
                  obtain ⟨f1, f2, f3⟩ := jfm_94 (Or.inl rfl) eμ83_3
                  refine k1 (a + 1) ((g a) - 48) _ ?_ (by omega) ⟨by rw [eμ83_3]; exact Rμ64_3.1, by rw [eμ83_3]; rfl, by omega, fun j j0 j1 => by rw [f3]; exact Rμ64_3.2.2.2 j j0 j1⟩ (jfm_tr Fμ64_3 f1) (f2.trans Eμ64_3) (by rw [eμ83_3]; exact Nμ64_3)
                  rw [hjp]
                  unfold jpw
                  rw [if_pos (by omega)]
              · first
                | (exfalso; omega)
                | skip
                  show jV _ _ jm_p_X10_readsNumber _ 73 [some (.inr (.inr 94)), some (.inl lo), some (.inl hi), some (.inl 1)] [.inl 0] μ64_3
                  refine jv_if_neF rfl rfl (by decide) ?_
                  refine jv_aload_n rfl rfl rfl (by decide) ?_
                  refine jv_iconst rfl rfl ?_
                  refine jv_callV1 rfl rfl rfl rfl ⟨by decide, rfl⟩ (Nat.le_of_ble_eq_true rfl) (mo_refuse (fun μ76_3 eμ76_3 => ?_))
                  show jV _ _ jm_p_X10_readsNumber _ 77 [some (.inr (.inr 94)), some (.inl lo), some (.inl hi), some (.inl 1)] [.inl 0] μ76_3
                  refine jv_ireturn rfl (Or.inr ⟨rfl, by decide⟩) ?_
                  have hjp : jpn g N a lo hi = jpw lo hi ((g a) - 48) a (a + 1) := by
                    unfold jpn
                    rw [if_pos (by first | assumption | (exfalso; omega)), if_neg (by first | assumption | (exfalso; omega))]
                  obtain ⟨f1, f2, f3⟩ := jfm_94 (Or.inr (Or.inl rfl)) eμ76_3
                  refine k0 2 _ ?_ (Or.inr rfl) (jfm_tr Fμ64_3 f1) (by rw [eμ76_3]; exact Rμ64_3.2.1) (by rw [eμ76_3]; rfl)
                  rw [hjp]
                  unfold jpw
                  rw [if_neg (by omega)]
  · first
    | (exfalso; omega)
    | skip
      show jV _ _ jm_p_X10_readsNumber _ 4 [some (.inr (.inr 94)), some (.inl lo), some (.inl hi), none] [.inl 0] μ
      refine jv_if_eqT rfl rfl (by decide) ?_
      refine jv_aload_n rfl rfl rfl (by decide) ?_
      refine jv_iconst rfl rfl ?_
      refine jv_callV1 rfl rfl rfl rfl ⟨by decide, rfl⟩ (Nat.le_of_ble_eq_true rfl) (mo_refuse (fun μ21_1 eμ21_1 => ?_))
      show jV _ _ jm_p_X10_readsNumber _ 22 [some (.inr (.inr 94)), some (.inl lo), some (.inl hi), none] [.inl 0] μ21_1
      refine jv_ireturn rfl (Or.inr ⟨rfl, by decide⟩) ?_
      obtain ⟨f1, f2, f3⟩ := jfm_94 (Or.inr (Or.inl rfl)) eμ21_1
      refine k0 1 _ ?_ (Or.inl rfl) f1 (by rw [eμ21_1]; exact h2) (by rw [eμ21_1]; rfl)
      unfold jpn
      by_cases z0 : a < N ∧ 48 ≤ g a ∧ g a ≤ 57
      · rw [if_pos z0, if_pos (by first | assumption | (exfalso; omega)), if_pos (by first | assumption | (exfalso; omega))]
      · rw [if_neg z0]
