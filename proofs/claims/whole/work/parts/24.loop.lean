def jp_all (len : Nat) (sc : Int → Int) : Prop := (∀ a0 a1 a2 : Int, jm_r a0 → jm_r a1 → jm_r a2 → jp (jm_xt len sc) 88 141 [.inl a0, .inl a1, .inl a2]) ∧ (∀ a0 a1 a2 : Int, jm_r a0 → jm_r a1 → jm_r a2 → jp (jm_xt len sc) 89 143 [.inl a0, .inl a1, .inl a2]) ∧ (∀ a0 a1 a2 a3 a4 : Int, jm_r a0 → jm_r a1 → jm_r a2 → jm_r a3 → jm_r a4 → jp (jm_xt len sc) 90 145 [.inl a0, .inl a1, .inl a2, .inl a3, .inl a4]) ∧ (∀ a0 : Int, jm_r a0 → jp (jm_xt len sc) 91 146 [.inl a0]) ∧ (∀ a0 : Int, jm_r a0 → jp (jm_xt len sc) 92 147 [.inl a0]) ∧ (jp (jm_xt len sc) 93 159 []) ∧ (jp (jm_xt len sc) 94 160 []) ∧ (∀ a0 : Int, jm_r a0 → jp (jm_xt len sc) 95 172 [.inl a0]) ∧ (∀ a0 : Int, jm_r a0 → jp (jm_xt len sc) 96 173 [.inl a0]) ∧ (∀ a0 : Int, jm_r a0 → jp (jm_xt len sc) 97 175 [.inl a0]) ∧ (∀ a0 : Int, jm_r a0 → jp (jm_xt len sc) 98 176 [.inl a0]) ∧ (jp (jm_xt len sc) 99 163 []) ∧ (∀ a0 a1 : Int, jm_r a0 → jm_r a1 → jp (jm_xt len sc) 100 177 [.inl a0, .inl a1]) ∧ (∀ a0 a1 : Int, jm_r a0 → jm_r a1 → jp (jm_xt len sc) 101 179 [.inl a0, .inl a1]) ∧ (∀ a0 a1 : Int, jm_r a0 → jm_r a1 → jp (jm_xt len sc) 102 180 [.inl a0, .inl a1]) ∧ (∀ a0 a1 : Int, jm_r a0 → jm_r a1 → jp (jm_xt len sc) 103 181 [.inl a0, .inl a1]) ∧ (∀ a0 a1 : Int, jm_r a0 → jm_r a1 → jp (jm_xt len sc) 104 184 [.inl a0, .inl a1]) ∧ (∀ a0 : Int, jm_r a0 → jp (jm_xt len sc) 105 185 [.inl a0]) ∧ (jp (jm_xt len sc) 106 186 []) ∧ (∀ a0 : Int, jm_r a0 → jp (jm_xt len sc) 107 192 [.inl a0]) ∧ (∀ a0 : Int, jm_r a0 → jp (jm_xt len sc) 108 194 [.inl a0]) ∧ (∀ a0 a1 a2 : Int, jm_r a0 → jm_r a1 → jm_r a2 → jp (jm_xt len sc) 109 195 [.inl a0, .inl a1, .inl a2]) ∧ (∀ a0 : Int, jm_r a0 → jp (jm_xt len sc) 110 196 [.inl a0]) ∧ (∀ a0 a1 : Int, jm_r a0 → jm_r a1 → jp (jm_xt len sc) 111 197 [.inl a0, .inl a1]) ∧ (∀ a0 a1 : Int, jm_r a0 → jm_r a1 → jp (jm_xt len sc) 112 200 [.inl a0, .inl a1]) ∧ (∀ a0 a1 a2 a3 : Int, jm_r a0 → jm_r a1 → jm_r a2 → jm_r a3 → jp (jm_xt len sc) 113 201 [.inl a0, .inl a1, .inl a2, .inl a3]) ∧ (∀ a0 a1 a2 : Int, jm_r a0 → jm_r a1 → jm_r a2 → jp (jm_xt len sc) 114 202 [.inl a0, .inl a1, .inl a2]) ∧ (∀ a0 a1 a2 : Int, jm_r a0 → jm_r a1 → jm_r a2 → jp (jm_xt len sc) 115 203 [.inl a0, .inl a1, .inl a2]) ∧ (∀ a0 : Int, jm_r a0 → jp (jm_xt len sc) 116 204 [.inl a0]) ∧ (∀ a0 : Int, jm_r a0 → jp (jm_xt len sc) 117 205 [.inl a0]) ∧ (∀ a0 : Int, jm_r a0 → jp (jm_xt len sc) 118 206 [.inl a0]) ∧ (∀ a0 a1 : Int, jm_r a0 → jm_r a1 → jp (jm_xt len sc) 119 208 [.inl a0, .inl a1]) ∧ (∀ a0 a1 : Int, jm_r a0 → jm_r a1 → jp (jm_xt len sc) 120 218 [.inl a0, .inl a1]) ∧ (∀ a0 : Int, jm_r a0 → jp (jm_xt len sc) 121 219 [.inl a0]) ∧ (∀ a0 : Int, jm_r a0 → jp (jm_xt len sc) 122 221 [.inl a0]) ∧ (jp (jm_xt len sc) 123 222 [])
set_option maxRecDepth 20000 in
set_option maxHeartbeats 4000000 in
theorem law_loop {len : Nat} {sc : Int → Int} (hlen : len ≤ 384) (hsc : ∀ j, jm_r (sc j)) (hp : jp_all len sc) : ∀ (n : Nat) (x : Int) (μ : jm_M), jI μ → 0 ≤ x → (len : Int) - x < n → x ≤ 1000 → jV (jm_xt len sc) 200 jm_p_L_law (fun v _ => v = [.inl 1]) 10 [some (.inr (.inr (-2))), some (.inr (.inr 0)), some (.inr (.inr 94)), some (.inl x)] [] μ := by
  obtain ⟨g0, g1, g2, g3, g4, g5, g6, g7, g8, g9, g10, g11, g12, g13, g14, g15, g16, g17, g18, g19, g20, g21, g22, g23, g24, g25, g26, g27, g28, g29, g30, g31, g32, g33, g34, g35⟩ := hp
  intro n
  induction n with
  | zero =>
    intro x μ hI x0 xn x1
    -- no call is left
    refine jv_iload_n rfl rfl rfl ?_
    refine jv_aload_n rfl rfl rfl (by decide) ?_
    refine jv_alen (ln := len) (f := sc) rfl rfl ⟨by decide, by decide⟩ rfl ?_
    refine jv_bipush rfl rfl ?_
    refine jv_isub rfl rfl ⟨by omega, by omega⟩ ?_
    refine jv_icmp_gtT rfl rfl (by omega) ?_
    refine jv_iconst rfl rfl ?_
    exact jv_ireturn rfl (Or.inr ⟨rfl, by decide⟩) rfl
  | succ n ih =>
    intro x μ hI x0 xn x1
    refine jv_iload_n rfl rfl rfl ?_
    refine jv_aload_n rfl rfl rfl (by decide) ?_
    refine jv_alen (ln := len) (f := sc) rfl rfl ⟨by decide, by decide⟩ rfl ?_
    refine jv_bipush rfl rfl ?_
    refine jv_isub rfl rfl ⟨by omega, by omega⟩ ?_
    refine jv_icmp_gt rfl rfl rfl (fun c15 => ?_) (fun c15 => ?_)
    · refine jv_iconst rfl rfl ?_
      exact jv_ireturn rfl (Or.inr ⟨rfl, by decide⟩) rfl
    have hend : ∀ μ2, jI μ2 → jV (jm_xt len sc) 200 jm_p_L_law (fun v _ => v = [.inl 1]) 844 [some (.inr (.inr (-2))), some (.inr (.inr 0)), some (.inr (.inr 94)), some (.inl x)] [] μ2 := by
      intro μ2 hI2
      refine jv_iinc (fun x => [some (.inr (.inr (-2))), some (.inr (.inr 0)), some (.inr (.inr 94)), some (.inl x)]) rfl rfl rfl ⟨by omega, by omega⟩ (fun _ => rfl) (fun y ey => ?_)
      refine jv_goto rfl rfl ?_
      exact ih y μ2 hI2 (by omega) (by omega) (by omega)
    refine jv_aload_n rfl rfl rfl (by decide) ?_
    refine jv_iload_n rfl rfl rfl ?_
    refine jv_xaload (ln := len) (f := sc) rfl rfl ⟨by decide, by decide⟩ rfl ⟨by omega, by omega⟩ ?_
    refine jv_bipush rfl rfl ?_
    refine jv_iand rfl rfl ?_
    refine jv_tsw rfl (And.intro (fun _ => ?_) (fun _ => (And.intro (fun _ => ?_) (fun _ => (And.intro (fun _ => ?_) (fun _ => (And.intro (fun _ => ?_) (fun _ => (And.intro (fun _ => ?_) (fun _ => (And.intro (fun _ => ?_) (fun _ => (And.intro (fun _ => ?_) (fun _ => (And.intro (fun _ => ?_) (fun _ => (And.intro (fun _ => ?_) (fun _ => (And.intro (fun _ => ?_) (fun _ => (And.intro (fun _ => ?_) (fun _ => (And.intro (fun _ => ?_) (fun _ => (And.intro (fun _ => ?_) (fun _ => (And.intro (fun _ => ?_) (fun _ => (And.intro (fun _ => ?_) (fun _ => (And.intro (fun _ => ?_) (fun _ => (And.intro (fun _ => ?_) (fun _ => (And.intro (fun _ => ?_) (fun _ => (And.intro (fun _ => ?_) (fun _ => (And.intro (fun _ => ?_) (fun _ => (And.intro (fun _ => ?_) (fun _ => (And.intro (fun _ => ?_) (fun _ => (And.intro (fun _ => ?_) (fun _ => (And.intro (fun _ => ?_) (fun _ => (And.intro (fun _ => ?_) (fun _ => (And.intro (fun _ => ?_) (fun _ => (And.intro (fun _ => ?_) (fun _ => (And.intro (fun _ => ?_) (fun _ => (And.intro (fun _ => ?_) (fun _ => (And.intro (fun _ => ?_) (fun _ => (And.intro (fun _ => ?_) (fun _ => (And.intro (fun _ => ?_) (fun _ => (And.intro (fun _ => ?_) (fun _ => (And.intro (fun _ => ?_) (fun _ => (And.intro (fun _ => ?_) (fun _ => (And.intro (fun _ => ?_) (fun _ => ?_))))))))))))))))))))))))))))))))))))))))))))))))))))))))))))))))))))))))
    · refine jv_aload_n rfl rfl rfl (by decide) ?_
      refine jv_aload_n rfl rfl rfl (by decide) ?_
      refine jv_iload_n rfl rfl rfl ?_
      refine jv_iconst rfl rfl ?_
      refine jv_iadd rfl rfl ⟨by omega, by omega⟩ ?_
      refine jv_xaload (ln := len) (f := sc) rfl rfl ⟨by decide, by decide⟩ rfl ⟨by omega, by omega⟩ ?_
      refine jv_aload_n rfl rfl rfl (by decide) ?_
      refine jv_iload_n rfl rfl rfl ?_
      refine jv_iconst rfl rfl ?_
      refine jv_iadd rfl rfl ⟨by omega, by omega⟩ ?_
      refine jv_xaload (ln := len) (f := sc) rfl rfl ⟨by decide, by decide⟩ rfl ⟨by omega, by omega⟩ ?_
      refine jv_aload_n rfl rfl rfl (by decide) ?_
      refine jv_iload_n rfl rfl rfl ?_
      refine jv_iconst rfl rfl ?_
      refine jv_iadd rfl rfl ⟨by omega, by omega⟩ ?_
      refine jv_xaload (ln := len) (f := sc) rfl rfl ⟨by decide, by decide⟩ rfl ⟨by omega, by omega⟩ ?_
      refine jv_callV3 rfl rfl rfl rfl ⟨by decide, rfl⟩ (Nat.le_of_ble_eq_true rfl) (jv_mono (g0 _ _ _ (hsc _) (hsc _) (hsc _) μ hI) (fun v μ1 hv => ?_))
      obtain ⟨r, rfl, hv⟩ := hv
      show jV _ _ jm_p_L_law _ 39 [some (.inr (.inr (-2))), some (.inr (.inr 0)), some (.inr (.inr 94)), some (.inl x)] [.inl r] μ1
      refine jv_aload_n rfl rfl rfl (by decide) ?_
      refine jv_aload_n rfl rfl rfl (by decide) ?_
      refine jv_iload_n rfl rfl rfl ?_
      refine jv_iconst rfl rfl ?_
      refine jv_iadd rfl rfl ⟨by omega, by omega⟩ ?_
      refine jv_xaload (ln := len) (f := sc) rfl rfl ⟨by decide, by decide⟩ rfl ⟨by omega, by omega⟩ ?_
      refine jv_aload_n rfl rfl rfl (by decide) ?_
      refine jv_iload_n rfl rfl rfl ?_
      refine jv_iconst rfl rfl ?_
      refine jv_iadd rfl rfl ⟨by omega, by omega⟩ ?_
      refine jv_xaload (ln := len) (f := sc) rfl rfl ⟨by decide, by decide⟩ rfl ⟨by omega, by omega⟩ ?_
      refine jv_aload_n rfl rfl rfl (by decide) ?_
      refine jv_iload_n rfl rfl rfl ?_
      refine jv_iconst rfl rfl ?_
      refine jv_iadd rfl rfl ⟨by omega, by omega⟩ ?_
      refine jv_xaload (ln := len) (f := sc) rfl rfl ⟨by decide, by decide⟩ rfl ⟨by omega, by omega⟩ ?_
      refine jv_callV3 rfl rfl rfl rfl ⟨by decide, rfl⟩ (Nat.le_of_ble_eq_true rfl) (jv_mono hv (fun v2 μ2 hv2 => ?_))
      obtain ⟨rfl, hI2⟩ := hv2
      show jV _ _ jm_p_L_law _ 56 [some (.inr (.inr (-2))), some (.inr (.inr 0)), some (.inr (.inr 94)), some (.inl x)] [.inl r, .inl r] μ2
      refine jv_icmp_eqT rfl rfl rfl ?_
      exact hend μ2 hI2
    · refine jv_aload_n rfl rfl rfl (by decide) ?_
      refine jv_aload_n rfl rfl rfl (by decide) ?_
      refine jv_iload_n rfl rfl rfl ?_
      refine jv_iconst rfl rfl ?_
      refine jv_iadd rfl rfl ⟨by omega, by omega⟩ ?_
      refine jv_xaload (ln := len) (f := sc) rfl rfl ⟨by decide, by decide⟩ rfl ⟨by omega, by omega⟩ ?_
      refine jv_aload_n rfl rfl rfl (by decide) ?_
      refine jv_iload_n rfl rfl rfl ?_
      refine jv_iconst rfl rfl ?_
      refine jv_iadd rfl rfl ⟨by omega, by omega⟩ ?_
      refine jv_xaload (ln := len) (f := sc) rfl rfl ⟨by decide, by decide⟩ rfl ⟨by omega, by omega⟩ ?_
      refine jv_aload_n rfl rfl rfl (by decide) ?_
      refine jv_iload_n rfl rfl rfl ?_
      refine jv_iconst rfl rfl ?_
      refine jv_iadd rfl rfl ⟨by omega, by omega⟩ ?_
      refine jv_xaload (ln := len) (f := sc) rfl rfl ⟨by decide, by decide⟩ rfl ⟨by omega, by omega⟩ ?_
      refine jv_callV3 rfl rfl rfl rfl ⟨by decide, rfl⟩ (Nat.le_of_ble_eq_true rfl) (jv_mono (g1 _ _ _ (hsc _) (hsc _) (hsc _) μ hI) (fun v μ1 hv => ?_))
      obtain ⟨r, rfl, hv⟩ := hv
      show jV _ _ jm_p_L_law _ 76 [some (.inr (.inr (-2))), some (.inr (.inr 0)), some (.inr (.inr 94)), some (.inl x)] [.inl r] μ1
      refine jv_aload_n rfl rfl rfl (by decide) ?_
      refine jv_aload_n rfl rfl rfl (by decide) ?_
      refine jv_iload_n rfl rfl rfl ?_
      refine jv_iconst rfl rfl ?_
      refine jv_iadd rfl rfl ⟨by omega, by omega⟩ ?_
      refine jv_xaload (ln := len) (f := sc) rfl rfl ⟨by decide, by decide⟩ rfl ⟨by omega, by omega⟩ ?_
      refine jv_aload_n rfl rfl rfl (by decide) ?_
      refine jv_iload_n rfl rfl rfl ?_
      refine jv_iconst rfl rfl ?_
      refine jv_iadd rfl rfl ⟨by omega, by omega⟩ ?_
      refine jv_xaload (ln := len) (f := sc) rfl rfl ⟨by decide, by decide⟩ rfl ⟨by omega, by omega⟩ ?_
      refine jv_aload_n rfl rfl rfl (by decide) ?_
      refine jv_iload_n rfl rfl rfl ?_
      refine jv_iconst rfl rfl ?_
      refine jv_iadd rfl rfl ⟨by omega, by omega⟩ ?_
      refine jv_xaload (ln := len) (f := sc) rfl rfl ⟨by decide, by decide⟩ rfl ⟨by omega, by omega⟩ ?_
      refine jv_callV3 rfl rfl rfl rfl ⟨by decide, rfl⟩ (Nat.le_of_ble_eq_true rfl) (jv_mono hv (fun v2 μ2 hv2 => ?_))
      obtain ⟨rfl, hI2⟩ := hv2
      show jV _ _ jm_p_L_law _ 93 [some (.inr (.inr (-2))), some (.inr (.inr 0)), some (.inr (.inr 94)), some (.inl x)] [.inl r, .inl r] μ2
      refine jv_icmp_eqT rfl rfl rfl ?_
      exact hend μ2 hI2
    · refine jv_aload_n rfl rfl rfl (by decide) ?_
      refine jv_aload_n rfl rfl rfl (by decide) ?_
      refine jv_iload_n rfl rfl rfl ?_
      refine jv_iconst rfl rfl ?_
      refine jv_iadd rfl rfl ⟨by omega, by omega⟩ ?_
      refine jv_xaload (ln := len) (f := sc) rfl rfl ⟨by decide, by decide⟩ rfl ⟨by omega, by omega⟩ ?_
      refine jv_aload_n rfl rfl rfl (by decide) ?_
      refine jv_iload_n rfl rfl rfl ?_
      refine jv_iconst rfl rfl ?_
      refine jv_iadd rfl rfl ⟨by omega, by omega⟩ ?_
      refine jv_xaload (ln := len) (f := sc) rfl rfl ⟨by decide, by decide⟩ rfl ⟨by omega, by omega⟩ ?_
      refine jv_aload_n rfl rfl rfl (by decide) ?_
      refine jv_iload_n rfl rfl rfl ?_
      refine jv_iconst rfl rfl ?_
      refine jv_iadd rfl rfl ⟨by omega, by omega⟩ ?_
      refine jv_xaload (ln := len) (f := sc) rfl rfl ⟨by decide, by decide⟩ rfl ⟨by omega, by omega⟩ ?_
      refine jv_aload_n rfl rfl rfl (by decide) ?_
      refine jv_iload_n rfl rfl rfl ?_
      refine jv_iconst rfl rfl ?_
      refine jv_iadd rfl rfl ⟨by omega, by omega⟩ ?_
      refine jv_xaload (ln := len) (f := sc) rfl rfl ⟨by decide, by decide⟩ rfl ⟨by omega, by omega⟩ ?_
      refine jv_aload_n rfl rfl rfl (by decide) ?_
      refine jv_iload_n rfl rfl rfl ?_
      refine jv_iconst rfl rfl ?_
      refine jv_iadd rfl rfl ⟨by omega, by omega⟩ ?_
      refine jv_xaload (ln := len) (f := sc) rfl rfl ⟨by decide, by decide⟩ rfl ⟨by omega, by omega⟩ ?_
      refine jv_callV5 rfl rfl rfl rfl ⟨by decide, rfl⟩ (Nat.le_of_ble_eq_true rfl) (jv_mono (g2 _ _ _ _ _ (hsc _) (hsc _) (hsc _) (hsc _) (hsc _) μ hI) (fun v μ1 hv => ?_))
      obtain ⟨r, rfl, hv⟩ := hv
      show jV _ _ jm_p_L_law _ 123 [some (.inr (.inr (-2))), some (.inr (.inr 0)), some (.inr (.inr 94)), some (.inl x)] [.inl r] μ1
      refine jv_aload_n rfl rfl rfl (by decide) ?_
      refine jv_aload_n rfl rfl rfl (by decide) ?_
      refine jv_iload_n rfl rfl rfl ?_
      refine jv_iconst rfl rfl ?_
      refine jv_iadd rfl rfl ⟨by omega, by omega⟩ ?_
      refine jv_xaload (ln := len) (f := sc) rfl rfl ⟨by decide, by decide⟩ rfl ⟨by omega, by omega⟩ ?_
      refine jv_aload_n rfl rfl rfl (by decide) ?_
      refine jv_iload_n rfl rfl rfl ?_
      refine jv_iconst rfl rfl ?_
      refine jv_iadd rfl rfl ⟨by omega, by omega⟩ ?_
      refine jv_xaload (ln := len) (f := sc) rfl rfl ⟨by decide, by decide⟩ rfl ⟨by omega, by omega⟩ ?_
      refine jv_aload_n rfl rfl rfl (by decide) ?_
      refine jv_iload_n rfl rfl rfl ?_
      refine jv_iconst rfl rfl ?_
      refine jv_iadd rfl rfl ⟨by omega, by omega⟩ ?_
      refine jv_xaload (ln := len) (f := sc) rfl rfl ⟨by decide, by decide⟩ rfl ⟨by omega, by omega⟩ ?_
      refine jv_aload_n rfl rfl rfl (by decide) ?_
      refine jv_iload_n rfl rfl rfl ?_
      refine jv_iconst rfl rfl ?_
      refine jv_iadd rfl rfl ⟨by omega, by omega⟩ ?_
      refine jv_xaload (ln := len) (f := sc) rfl rfl ⟨by decide, by decide⟩ rfl ⟨by omega, by omega⟩ ?_
      refine jv_aload_n rfl rfl rfl (by decide) ?_
      refine jv_iload_n rfl rfl rfl ?_
      refine jv_iconst rfl rfl ?_
      refine jv_iadd rfl rfl ⟨by omega, by omega⟩ ?_
      refine jv_xaload (ln := len) (f := sc) rfl rfl ⟨by decide, by decide⟩ rfl ⟨by omega, by omega⟩ ?_
      refine jv_callV5 rfl rfl rfl rfl ⟨by decide, rfl⟩ (Nat.le_of_ble_eq_true rfl) (jv_mono hv (fun v2 μ2 hv2 => ?_))
      obtain ⟨rfl, hI2⟩ := hv2
      show jV _ _ jm_p_L_law _ 150 [some (.inr (.inr (-2))), some (.inr (.inr 0)), some (.inr (.inr 94)), some (.inl x)] [.inl r, .inl r] μ2
      refine jv_icmp_eqT rfl rfl rfl ?_
      exact hend μ2 hI2
    · refine jv_aload_n rfl rfl rfl (by decide) ?_
      refine jv_aload_n rfl rfl rfl (by decide) ?_
      refine jv_iload_n rfl rfl rfl ?_
      refine jv_iconst rfl rfl ?_
      refine jv_iadd rfl rfl ⟨by omega, by omega⟩ ?_
      refine jv_xaload (ln := len) (f := sc) rfl rfl ⟨by decide, by decide⟩ rfl ⟨by omega, by omega⟩ ?_
      refine jv_callV1 rfl rfl rfl rfl ⟨by decide, rfl⟩ (Nat.le_of_ble_eq_true rfl) (jv_mono (g3 _ (hsc _) μ hI) (fun v μ1 hv => ?_))
      obtain ⟨r, rfl, hv⟩ := hv
      show jV _ _ jm_p_L_law _ 160 [some (.inr (.inr (-2))), some (.inr (.inr 0)), some (.inr (.inr 94)), some (.inl x)] [.inl r] μ1
      refine jv_aload_n rfl rfl rfl (by decide) ?_
      refine jv_aload_n rfl rfl rfl (by decide) ?_
      refine jv_iload_n rfl rfl rfl ?_
      refine jv_iconst rfl rfl ?_
      refine jv_iadd rfl rfl ⟨by omega, by omega⟩ ?_
      refine jv_xaload (ln := len) (f := sc) rfl rfl ⟨by decide, by decide⟩ rfl ⟨by omega, by omega⟩ ?_
      refine jv_callV1 rfl rfl rfl rfl ⟨by decide, rfl⟩ (Nat.le_of_ble_eq_true rfl) (jv_mono hv (fun v2 μ2 hv2 => ?_))
      obtain ⟨rfl, hI2⟩ := hv2
      show jV _ _ jm_p_L_law _ 167 [some (.inr (.inr (-2))), some (.inr (.inr 0)), some (.inr (.inr 94)), some (.inl x)] [.inl r, .inl r] μ2
      refine jv_icmp_eqT rfl rfl rfl ?_
      exact hend μ2 hI2
    · refine jv_aload_n rfl rfl rfl (by decide) ?_
      refine jv_aload_n rfl rfl rfl (by decide) ?_
      refine jv_iload_n rfl rfl rfl ?_
      refine jv_iconst rfl rfl ?_
      refine jv_iadd rfl rfl ⟨by omega, by omega⟩ ?_
      refine jv_xaload (ln := len) (f := sc) rfl rfl ⟨by decide, by decide⟩ rfl ⟨by omega, by omega⟩ ?_
      refine jv_callV1 rfl rfl rfl rfl ⟨by decide, rfl⟩ (Nat.le_of_ble_eq_true rfl) (jv_mono (g4 _ (hsc _) μ hI) (fun v μ1 hv => ?_))
      obtain ⟨r, rfl, hv⟩ := hv
      show jV _ _ jm_p_L_law _ 177 [some (.inr (.inr (-2))), some (.inr (.inr 0)), some (.inr (.inr 94)), some (.inl x)] [.inl r] μ1
      refine jv_aload_n rfl rfl rfl (by decide) ?_
      refine jv_aload_n rfl rfl rfl (by decide) ?_
      refine jv_iload_n rfl rfl rfl ?_
      refine jv_iconst rfl rfl ?_
      refine jv_iadd rfl rfl ⟨by omega, by omega⟩ ?_
      refine jv_xaload (ln := len) (f := sc) rfl rfl ⟨by decide, by decide⟩ rfl ⟨by omega, by omega⟩ ?_
      refine jv_callV1 rfl rfl rfl rfl ⟨by decide, rfl⟩ (Nat.le_of_ble_eq_true rfl) (jv_mono hv (fun v2 μ2 hv2 => ?_))
      obtain ⟨rfl, hI2⟩ := hv2
      show jV _ _ jm_p_L_law _ 184 [some (.inr (.inr (-2))), some (.inr (.inr 0)), some (.inr (.inr 94)), some (.inl x)] [.inl r, .inl r] μ2
      refine jv_icmp_eqT rfl rfl rfl ?_
      exact hend μ2 hI2
    · refine jv_aload_n rfl rfl rfl (by decide) ?_
      refine jv_callV0 rfl rfl rfl rfl ⟨by decide, rfl⟩ (Nat.le_of_ble_eq_true rfl) (jv_mono (g5  μ hI) (fun v μ1 hv => ?_))
      obtain ⟨r, rfl, hv⟩ := hv
      show jV _ _ jm_p_L_law _ 189 [some (.inr (.inr (-2))), some (.inr (.inr 0)), some (.inr (.inr 94)), some (.inl x)] [.inl r] μ1
      refine jv_aload_n rfl rfl rfl (by decide) ?_
      refine jv_callV0 rfl rfl rfl rfl ⟨by decide, rfl⟩ (Nat.le_of_ble_eq_true rfl) (jv_mono hv (fun v2 μ2 hv2 => ?_))
      obtain ⟨rfl, hI2⟩ := hv2
      show jV _ _ jm_p_L_law _ 191 [some (.inr (.inr (-2))), some (.inr (.inr 0)), some (.inr (.inr 94)), some (.inl x)] [.inl r, .inl r] μ2
      refine jv_icmp_eqT rfl rfl rfl ?_
      exact hend μ2 hI2
    · refine jv_aload_n rfl rfl rfl (by decide) ?_
      refine jv_callV0 rfl rfl rfl rfl ⟨by decide, rfl⟩ (Nat.le_of_ble_eq_true rfl) (jv_mono (g6  μ hI) (fun v μ1 hv => ?_))
      obtain ⟨r, rfl, hv⟩ := hv
      show jV _ _ jm_p_L_law _ 196 [some (.inr (.inr (-2))), some (.inr (.inr 0)), some (.inr (.inr 94)), some (.inl x)] [.inl r] μ1
      refine jv_aload_n rfl rfl rfl (by decide) ?_
      refine jv_callV0 rfl rfl rfl rfl ⟨by decide, rfl⟩ (Nat.le_of_ble_eq_true rfl) (jv_mono hv (fun v2 μ2 hv2 => ?_))
      obtain ⟨rfl, hI2⟩ := hv2
      show jV _ _ jm_p_L_law _ 198 [some (.inr (.inr (-2))), some (.inr (.inr 0)), some (.inr (.inr 94)), some (.inl x)] [.inl r, .inl r] μ2
      refine jv_icmp_eqT rfl rfl rfl ?_
      exact hend μ2 hI2
    · refine jv_aload_n rfl rfl rfl (by decide) ?_
      refine jv_aload_n rfl rfl rfl (by decide) ?_
      refine jv_iload_n rfl rfl rfl ?_
      refine jv_iconst rfl rfl ?_
      refine jv_iadd rfl rfl ⟨by omega, by omega⟩ ?_
      refine jv_xaload (ln := len) (f := sc) rfl rfl ⟨by decide, by decide⟩ rfl ⟨by omega, by omega⟩ ?_
      refine jv_callV1 rfl rfl rfl rfl ⟨by decide, rfl⟩ (Nat.le_of_ble_eq_true rfl) (jv_mono (g7 _ (hsc _) μ hI) (fun v μ1 hv => ?_))
      obtain ⟨r, rfl, hv⟩ := hv
      show jV _ _ jm_p_L_law _ 208 [some (.inr (.inr (-2))), some (.inr (.inr 0)), some (.inr (.inr 94)), some (.inl x)] [.inl r] μ1
      refine jv_aload_n rfl rfl rfl (by decide) ?_
      refine jv_aload_n rfl rfl rfl (by decide) ?_
      refine jv_iload_n rfl rfl rfl ?_
      refine jv_iconst rfl rfl ?_
      refine jv_iadd rfl rfl ⟨by omega, by omega⟩ ?_
      refine jv_xaload (ln := len) (f := sc) rfl rfl ⟨by decide, by decide⟩ rfl ⟨by omega, by omega⟩ ?_
      refine jv_callV1 rfl rfl rfl rfl ⟨by decide, rfl⟩ (Nat.le_of_ble_eq_true rfl) (jv_mono hv (fun v2 μ2 hv2 => ?_))
      obtain ⟨rfl, hI2⟩ := hv2
      show jV _ _ jm_p_L_law _ 215 [some (.inr (.inr (-2))), some (.inr (.inr 0)), some (.inr (.inr 94)), some (.inl x)] [.inl r, .inl r] μ2
      refine jv_icmp_eqT rfl rfl rfl ?_
      exact hend μ2 hI2
    · refine jv_aload_n rfl rfl rfl (by decide) ?_
      refine jv_aload_n rfl rfl rfl (by decide) ?_
      refine jv_iload_n rfl rfl rfl ?_
      refine jv_iconst rfl rfl ?_
      refine jv_iadd rfl rfl ⟨by omega, by omega⟩ ?_
      refine jv_xaload (ln := len) (f := sc) rfl rfl ⟨by decide, by decide⟩ rfl ⟨by omega, by omega⟩ ?_
      refine jv_callV1 rfl rfl rfl rfl ⟨by decide, rfl⟩ (Nat.le_of_ble_eq_true rfl) (jv_mono (g8 _ (hsc _) μ hI) (fun v μ1 hv => ?_))
      obtain ⟨r, rfl, hv⟩ := hv
      show jV _ _ jm_p_L_law _ 225 [some (.inr (.inr (-2))), some (.inr (.inr 0)), some (.inr (.inr 94)), some (.inl x)] [.inl r] μ1
      refine jv_aload_n rfl rfl rfl (by decide) ?_
      refine jv_aload_n rfl rfl rfl (by decide) ?_
      refine jv_iload_n rfl rfl rfl ?_
      refine jv_iconst rfl rfl ?_
      refine jv_iadd rfl rfl ⟨by omega, by omega⟩ ?_
      refine jv_xaload (ln := len) (f := sc) rfl rfl ⟨by decide, by decide⟩ rfl ⟨by omega, by omega⟩ ?_
      refine jv_callV1 rfl rfl rfl rfl ⟨by decide, rfl⟩ (Nat.le_of_ble_eq_true rfl) (jv_mono hv (fun v2 μ2 hv2 => ?_))
      obtain ⟨rfl, hI2⟩ := hv2
      show jV _ _ jm_p_L_law _ 232 [some (.inr (.inr (-2))), some (.inr (.inr 0)), some (.inr (.inr 94)), some (.inl x)] [.inl r, .inl r] μ2
      refine jv_icmp_eqT rfl rfl rfl ?_
      exact hend μ2 hI2
    · refine jv_aload_n rfl rfl rfl (by decide) ?_
      refine jv_aload_n rfl rfl rfl (by decide) ?_
      refine jv_iload_n rfl rfl rfl ?_
      refine jv_iconst rfl rfl ?_
      refine jv_iadd rfl rfl ⟨by omega, by omega⟩ ?_
      refine jv_xaload (ln := len) (f := sc) rfl rfl ⟨by decide, by decide⟩ rfl ⟨by omega, by omega⟩ ?_
      refine jv_callV1 rfl rfl rfl rfl ⟨by decide, rfl⟩ (Nat.le_of_ble_eq_true rfl) (jv_mono (g9 _ (hsc _) μ hI) (fun v μ1 hv => ?_))
      obtain ⟨r, rfl, hv⟩ := hv
      show jV _ _ jm_p_L_law _ 242 [some (.inr (.inr (-2))), some (.inr (.inr 0)), some (.inr (.inr 94)), some (.inl x)] [.inl r] μ1
      refine jv_aload_n rfl rfl rfl (by decide) ?_
      refine jv_aload_n rfl rfl rfl (by decide) ?_
      refine jv_iload_n rfl rfl rfl ?_
      refine jv_iconst rfl rfl ?_
      refine jv_iadd rfl rfl ⟨by omega, by omega⟩ ?_
      refine jv_xaload (ln := len) (f := sc) rfl rfl ⟨by decide, by decide⟩ rfl ⟨by omega, by omega⟩ ?_
      refine jv_callV1 rfl rfl rfl rfl ⟨by decide, rfl⟩ (Nat.le_of_ble_eq_true rfl) (jv_mono hv (fun v2 μ2 hv2 => ?_))
      obtain ⟨rfl, hI2⟩ := hv2
      show jV _ _ jm_p_L_law _ 249 [some (.inr (.inr (-2))), some (.inr (.inr 0)), some (.inr (.inr 94)), some (.inl x)] [.inl r, .inl r] μ2
      refine jv_icmp_eqT rfl rfl rfl ?_
      exact hend μ2 hI2
    · refine jv_aload_n rfl rfl rfl (by decide) ?_
      refine jv_aload_n rfl rfl rfl (by decide) ?_
      refine jv_iload_n rfl rfl rfl ?_
      refine jv_iconst rfl rfl ?_
      refine jv_iadd rfl rfl ⟨by omega, by omega⟩ ?_
      refine jv_xaload (ln := len) (f := sc) rfl rfl ⟨by decide, by decide⟩ rfl ⟨by omega, by omega⟩ ?_
      refine jv_callV1 rfl rfl rfl rfl ⟨by decide, rfl⟩ (Nat.le_of_ble_eq_true rfl) (jv_mono (g10 _ (hsc _) μ hI) (fun v μ1 hv => ?_))
      obtain ⟨r, rfl, hv⟩ := hv
      show jV _ _ jm_p_L_law _ 259 [some (.inr (.inr (-2))), some (.inr (.inr 0)), some (.inr (.inr 94)), some (.inl x)] [.inl r] μ1
      refine jv_aload_n rfl rfl rfl (by decide) ?_
      refine jv_aload_n rfl rfl rfl (by decide) ?_
      refine jv_iload_n rfl rfl rfl ?_
      refine jv_iconst rfl rfl ?_
      refine jv_iadd rfl rfl ⟨by omega, by omega⟩ ?_
      refine jv_xaload (ln := len) (f := sc) rfl rfl ⟨by decide, by decide⟩ rfl ⟨by omega, by omega⟩ ?_
      refine jv_callV1 rfl rfl rfl rfl ⟨by decide, rfl⟩ (Nat.le_of_ble_eq_true rfl) (jv_mono hv (fun v2 μ2 hv2 => ?_))
      obtain ⟨rfl, hI2⟩ := hv2
      show jV _ _ jm_p_L_law _ 266 [some (.inr (.inr (-2))), some (.inr (.inr 0)), some (.inr (.inr 94)), some (.inl x)] [.inl r, .inl r] μ2
      refine jv_icmp_eqT rfl rfl rfl ?_
      exact hend μ2 hI2
    · refine jv_aload_n rfl rfl rfl (by decide) ?_
      refine jv_callV0 rfl rfl rfl rfl ⟨by decide, rfl⟩ (Nat.le_of_ble_eq_true rfl) (jv_mono (g11  μ hI) (fun v μ1 hv => ?_))
      obtain ⟨r, rfl, hv⟩ := hv
      show jV _ _ jm_p_L_law _ 271 [some (.inr (.inr (-2))), some (.inr (.inr 0)), some (.inr (.inr 94)), some (.inl x)] [.inl r] μ1
      refine jv_aload_n rfl rfl rfl (by decide) ?_
      refine jv_callV0 rfl rfl rfl rfl ⟨by decide, rfl⟩ (Nat.le_of_ble_eq_true rfl) (jv_mono hv (fun v2 μ2 hv2 => ?_))
      obtain ⟨rfl, hI2⟩ := hv2
      show jV _ _ jm_p_L_law _ 273 [some (.inr (.inr (-2))), some (.inr (.inr 0)), some (.inr (.inr 94)), some (.inl x)] [.inl r, .inl r] μ2
      refine jv_icmp_eqT rfl rfl rfl ?_
      exact hend μ2 hI2
    · refine jv_aload_n rfl rfl rfl (by decide) ?_
      refine jv_aload_n rfl rfl rfl (by decide) ?_
      refine jv_iload_n rfl rfl rfl ?_
      refine jv_iconst rfl rfl ?_
      refine jv_iadd rfl rfl ⟨by omega, by omega⟩ ?_
      refine jv_xaload (ln := len) (f := sc) rfl rfl ⟨by decide, by decide⟩ rfl ⟨by omega, by omega⟩ ?_
      refine jv_aload_n rfl rfl rfl (by decide) ?_
      refine jv_iload_n rfl rfl rfl ?_
      refine jv_iconst rfl rfl ?_
      refine jv_iadd rfl rfl ⟨by omega, by omega⟩ ?_
      refine jv_xaload (ln := len) (f := sc) rfl rfl ⟨by decide, by decide⟩ rfl ⟨by omega, by omega⟩ ?_
      refine jv_callV2 rfl rfl rfl rfl ⟨by decide, rfl⟩ (Nat.le_of_ble_eq_true rfl) (jv_mono (g12 _ _ (hsc _) (hsc _) μ hI) (fun v μ1 hv => ?_))
      obtain ⟨r, rfl, hv⟩ := hv
      show jV _ _ jm_p_L_law _ 288 [some (.inr (.inr (-2))), some (.inr (.inr 0)), some (.inr (.inr 94)), some (.inl x)] [.inl r] μ1
      refine jv_aload_n rfl rfl rfl (by decide) ?_
      refine jv_aload_n rfl rfl rfl (by decide) ?_
      refine jv_iload_n rfl rfl rfl ?_
      refine jv_iconst rfl rfl ?_
      refine jv_iadd rfl rfl ⟨by omega, by omega⟩ ?_
      refine jv_xaload (ln := len) (f := sc) rfl rfl ⟨by decide, by decide⟩ rfl ⟨by omega, by omega⟩ ?_
      refine jv_aload_n rfl rfl rfl (by decide) ?_
      refine jv_iload_n rfl rfl rfl ?_
      refine jv_iconst rfl rfl ?_
      refine jv_iadd rfl rfl ⟨by omega, by omega⟩ ?_
      refine jv_xaload (ln := len) (f := sc) rfl rfl ⟨by decide, by decide⟩ rfl ⟨by omega, by omega⟩ ?_
      refine jv_callV2 rfl rfl rfl rfl ⟨by decide, rfl⟩ (Nat.le_of_ble_eq_true rfl) (jv_mono hv (fun v2 μ2 hv2 => ?_))
      obtain ⟨rfl, hI2⟩ := hv2
      show jV _ _ jm_p_L_law _ 300 [some (.inr (.inr (-2))), some (.inr (.inr 0)), some (.inr (.inr 94)), some (.inl x)] [.inl r, .inl r] μ2
      refine jv_icmp_eqT rfl rfl rfl ?_
      exact hend μ2 hI2
    · refine jv_aload_n rfl rfl rfl (by decide) ?_
      refine jv_aload_n rfl rfl rfl (by decide) ?_
      refine jv_iload_n rfl rfl rfl ?_
      refine jv_iconst rfl rfl ?_
      refine jv_iadd rfl rfl ⟨by omega, by omega⟩ ?_
      refine jv_xaload (ln := len) (f := sc) rfl rfl ⟨by decide, by decide⟩ rfl ⟨by omega, by omega⟩ ?_
      refine jv_aload_n rfl rfl rfl (by decide) ?_
      refine jv_iload_n rfl rfl rfl ?_
      refine jv_iconst rfl rfl ?_
      refine jv_iadd rfl rfl ⟨by omega, by omega⟩ ?_
      refine jv_xaload (ln := len) (f := sc) rfl rfl ⟨by decide, by decide⟩ rfl ⟨by omega, by omega⟩ ?_
      refine jv_callV2 rfl rfl rfl rfl ⟨by decide, rfl⟩ (Nat.le_of_ble_eq_true rfl) (jv_mono (g13 _ _ (hsc _) (hsc _) μ hI) (fun v μ1 hv => ?_))
      obtain ⟨r, rfl, hv⟩ := hv
      show jV _ _ jm_p_L_law _ 315 [some (.inr (.inr (-2))), some (.inr (.inr 0)), some (.inr (.inr 94)), some (.inl x)] [.inl r] μ1
      refine jv_aload_n rfl rfl rfl (by decide) ?_
      refine jv_aload_n rfl rfl rfl (by decide) ?_
      refine jv_iload_n rfl rfl rfl ?_
      refine jv_iconst rfl rfl ?_
      refine jv_iadd rfl rfl ⟨by omega, by omega⟩ ?_
      refine jv_xaload (ln := len) (f := sc) rfl rfl ⟨by decide, by decide⟩ rfl ⟨by omega, by omega⟩ ?_
      refine jv_aload_n rfl rfl rfl (by decide) ?_
      refine jv_iload_n rfl rfl rfl ?_
      refine jv_iconst rfl rfl ?_
      refine jv_iadd rfl rfl ⟨by omega, by omega⟩ ?_
      refine jv_xaload (ln := len) (f := sc) rfl rfl ⟨by decide, by decide⟩ rfl ⟨by omega, by omega⟩ ?_
      refine jv_callV2 rfl rfl rfl rfl ⟨by decide, rfl⟩ (Nat.le_of_ble_eq_true rfl) (jv_mono hv (fun v2 μ2 hv2 => ?_))
      obtain ⟨rfl, hI2⟩ := hv2
      show jV _ _ jm_p_L_law _ 327 [some (.inr (.inr (-2))), some (.inr (.inr 0)), some (.inr (.inr 94)), some (.inl x)] [.inl r, .inl r] μ2
      refine jv_icmp_eqT rfl rfl rfl ?_
      exact hend μ2 hI2
    · refine jv_aload_n rfl rfl rfl (by decide) ?_
      refine jv_aload_n rfl rfl rfl (by decide) ?_
      refine jv_iload_n rfl rfl rfl ?_
      refine jv_iconst rfl rfl ?_
      refine jv_iadd rfl rfl ⟨by omega, by omega⟩ ?_
      refine jv_xaload (ln := len) (f := sc) rfl rfl ⟨by decide, by decide⟩ rfl ⟨by omega, by omega⟩ ?_
      refine jv_aload_n rfl rfl rfl (by decide) ?_
      refine jv_iload_n rfl rfl rfl ?_
      refine jv_iconst rfl rfl ?_
      refine jv_iadd rfl rfl ⟨by omega, by omega⟩ ?_
      refine jv_xaload (ln := len) (f := sc) rfl rfl ⟨by decide, by decide⟩ rfl ⟨by omega, by omega⟩ ?_
      refine jv_callV2 rfl rfl rfl rfl ⟨by decide, rfl⟩ (Nat.le_of_ble_eq_true rfl) (jv_mono (g14 _ _ (hsc _) (hsc _) μ hI) (fun v μ1 hv => ?_))
      obtain ⟨r, rfl, hv⟩ := hv
      show jV _ _ jm_p_L_law _ 342 [some (.inr (.inr (-2))), some (.inr (.inr 0)), some (.inr (.inr 94)), some (.inl x)] [.inl r] μ1
      refine jv_aload_n rfl rfl rfl (by decide) ?_
      refine jv_aload_n rfl rfl rfl (by decide) ?_
      refine jv_iload_n rfl rfl rfl ?_
      refine jv_iconst rfl rfl ?_
      refine jv_iadd rfl rfl ⟨by omega, by omega⟩ ?_
      refine jv_xaload (ln := len) (f := sc) rfl rfl ⟨by decide, by decide⟩ rfl ⟨by omega, by omega⟩ ?_
      refine jv_aload_n rfl rfl rfl (by decide) ?_
      refine jv_iload_n rfl rfl rfl ?_
      refine jv_iconst rfl rfl ?_
      refine jv_iadd rfl rfl ⟨by omega, by omega⟩ ?_
      refine jv_xaload (ln := len) (f := sc) rfl rfl ⟨by decide, by decide⟩ rfl ⟨by omega, by omega⟩ ?_
      refine jv_callV2 rfl rfl rfl rfl ⟨by decide, rfl⟩ (Nat.le_of_ble_eq_true rfl) (jv_mono hv (fun v2 μ2 hv2 => ?_))
      obtain ⟨rfl, hI2⟩ := hv2
      show jV _ _ jm_p_L_law _ 354 [some (.inr (.inr (-2))), some (.inr (.inr 0)), some (.inr (.inr 94)), some (.inl x)] [.inl r, .inl r] μ2
      refine jv_icmp_eqT rfl rfl rfl ?_
      exact hend μ2 hI2
    · refine jv_aload_n rfl rfl rfl (by decide) ?_
      refine jv_aload_n rfl rfl rfl (by decide) ?_
      refine jv_iload_n rfl rfl rfl ?_
      refine jv_iconst rfl rfl ?_
      refine jv_iadd rfl rfl ⟨by omega, by omega⟩ ?_
      refine jv_xaload (ln := len) (f := sc) rfl rfl ⟨by decide, by decide⟩ rfl ⟨by omega, by omega⟩ ?_
      refine jv_aload_n rfl rfl rfl (by decide) ?_
      refine jv_iload_n rfl rfl rfl ?_
      refine jv_iconst rfl rfl ?_
      refine jv_iadd rfl rfl ⟨by omega, by omega⟩ ?_
      refine jv_xaload (ln := len) (f := sc) rfl rfl ⟨by decide, by decide⟩ rfl ⟨by omega, by omega⟩ ?_
      refine jv_callV2 rfl rfl rfl rfl ⟨by decide, rfl⟩ (Nat.le_of_ble_eq_true rfl) (jv_mono (g15 _ _ (hsc _) (hsc _) μ hI) (fun v μ1 hv => ?_))
      obtain ⟨r, rfl, hv⟩ := hv
      show jV _ _ jm_p_L_law _ 369 [some (.inr (.inr (-2))), some (.inr (.inr 0)), some (.inr (.inr 94)), some (.inl x)] [.inl r] μ1
      refine jv_aload_n rfl rfl rfl (by decide) ?_
      refine jv_aload_n rfl rfl rfl (by decide) ?_
      refine jv_iload_n rfl rfl rfl ?_
      refine jv_iconst rfl rfl ?_
      refine jv_iadd rfl rfl ⟨by omega, by omega⟩ ?_
      refine jv_xaload (ln := len) (f := sc) rfl rfl ⟨by decide, by decide⟩ rfl ⟨by omega, by omega⟩ ?_
      refine jv_aload_n rfl rfl rfl (by decide) ?_
      refine jv_iload_n rfl rfl rfl ?_
      refine jv_iconst rfl rfl ?_
      refine jv_iadd rfl rfl ⟨by omega, by omega⟩ ?_
      refine jv_xaload (ln := len) (f := sc) rfl rfl ⟨by decide, by decide⟩ rfl ⟨by omega, by omega⟩ ?_
      refine jv_callV2 rfl rfl rfl rfl ⟨by decide, rfl⟩ (Nat.le_of_ble_eq_true rfl) (jv_mono hv (fun v2 μ2 hv2 => ?_))
      obtain ⟨rfl, hI2⟩ := hv2
      show jV _ _ jm_p_L_law _ 381 [some (.inr (.inr (-2))), some (.inr (.inr 0)), some (.inr (.inr 94)), some (.inl x)] [.inl r, .inl r] μ2
      refine jv_icmp_eqT rfl rfl rfl ?_
      exact hend μ2 hI2
    · refine jv_aload_n rfl rfl rfl (by decide) ?_
      refine jv_aload_n rfl rfl rfl (by decide) ?_
      refine jv_iload_n rfl rfl rfl ?_
      refine jv_iconst rfl rfl ?_
      refine jv_iadd rfl rfl ⟨by omega, by omega⟩ ?_
      refine jv_xaload (ln := len) (f := sc) rfl rfl ⟨by decide, by decide⟩ rfl ⟨by omega, by omega⟩ ?_
      refine jv_aload_n rfl rfl rfl (by decide) ?_
      refine jv_iload_n rfl rfl rfl ?_
      refine jv_iconst rfl rfl ?_
      refine jv_iadd rfl rfl ⟨by omega, by omega⟩ ?_
      refine jv_xaload (ln := len) (f := sc) rfl rfl ⟨by decide, by decide⟩ rfl ⟨by omega, by omega⟩ ?_
      refine jv_callV2 rfl rfl rfl rfl ⟨by decide, rfl⟩ (Nat.le_of_ble_eq_true rfl) (jv_mono (g16 _ _ (hsc _) (hsc _) μ hI) (fun v μ1 hv => ?_))
      obtain ⟨r, rfl, hv⟩ := hv
      show jV _ _ jm_p_L_law _ 396 [some (.inr (.inr (-2))), some (.inr (.inr 0)), some (.inr (.inr 94)), some (.inl x)] [.inl r] μ1
      refine jv_aload_n rfl rfl rfl (by decide) ?_
      refine jv_aload_n rfl rfl rfl (by decide) ?_
      refine jv_iload_n rfl rfl rfl ?_
      refine jv_iconst rfl rfl ?_
      refine jv_iadd rfl rfl ⟨by omega, by omega⟩ ?_
      refine jv_xaload (ln := len) (f := sc) rfl rfl ⟨by decide, by decide⟩ rfl ⟨by omega, by omega⟩ ?_
      refine jv_aload_n rfl rfl rfl (by decide) ?_
      refine jv_iload_n rfl rfl rfl ?_
      refine jv_iconst rfl rfl ?_
      refine jv_iadd rfl rfl ⟨by omega, by omega⟩ ?_
      refine jv_xaload (ln := len) (f := sc) rfl rfl ⟨by decide, by decide⟩ rfl ⟨by omega, by omega⟩ ?_
      refine jv_callV2 rfl rfl rfl rfl ⟨by decide, rfl⟩ (Nat.le_of_ble_eq_true rfl) (jv_mono hv (fun v2 μ2 hv2 => ?_))
      obtain ⟨rfl, hI2⟩ := hv2
      show jV _ _ jm_p_L_law _ 408 [some (.inr (.inr (-2))), some (.inr (.inr 0)), some (.inr (.inr 94)), some (.inl x)] [.inl r, .inl r] μ2
      refine jv_icmp_eqT rfl rfl rfl ?_
      exact hend μ2 hI2
    · refine jv_aload_n rfl rfl rfl (by decide) ?_
      refine jv_aload_n rfl rfl rfl (by decide) ?_
      refine jv_iload_n rfl rfl rfl ?_
      refine jv_iconst rfl rfl ?_
      refine jv_iadd rfl rfl ⟨by omega, by omega⟩ ?_
      refine jv_xaload (ln := len) (f := sc) rfl rfl ⟨by decide, by decide⟩ rfl ⟨by omega, by omega⟩ ?_
      refine jv_callV1 rfl rfl rfl rfl ⟨by decide, rfl⟩ (Nat.le_of_ble_eq_true rfl) (jv_mono (g17 _ (hsc _) μ hI) (fun v μ1 hv => ?_))
      obtain ⟨r, rfl, hv⟩ := hv
      show jV _ _ jm_p_L_law _ 418 [some (.inr (.inr (-2))), some (.inr (.inr 0)), some (.inr (.inr 94)), some (.inl x)] [.inl r] μ1
      refine jv_aload_n rfl rfl rfl (by decide) ?_
      refine jv_aload_n rfl rfl rfl (by decide) ?_
      refine jv_iload_n rfl rfl rfl ?_
      refine jv_iconst rfl rfl ?_
      refine jv_iadd rfl rfl ⟨by omega, by omega⟩ ?_
      refine jv_xaload (ln := len) (f := sc) rfl rfl ⟨by decide, by decide⟩ rfl ⟨by omega, by omega⟩ ?_
      refine jv_callV1 rfl rfl rfl rfl ⟨by decide, rfl⟩ (Nat.le_of_ble_eq_true rfl) (jv_mono hv (fun v2 μ2 hv2 => ?_))
      obtain ⟨rfl, hI2⟩ := hv2
      show jV _ _ jm_p_L_law _ 425 [some (.inr (.inr (-2))), some (.inr (.inr 0)), some (.inr (.inr 94)), some (.inl x)] [.inl r, .inl r] μ2
      refine jv_icmp_eqT rfl rfl rfl ?_
      exact hend μ2 hI2
    · refine jv_aload_n rfl rfl rfl (by decide) ?_
      refine jv_callV0 rfl rfl rfl rfl ⟨by decide, rfl⟩ (Nat.le_of_ble_eq_true rfl) (jv_mono (g18  μ hI) (fun v μ1 hv => ?_))
      obtain ⟨r, rfl, hv⟩ := hv
      show jV _ _ jm_p_L_law _ 430 [some (.inr (.inr (-2))), some (.inr (.inr 0)), some (.inr (.inr 94)), some (.inl x)] [.inl r] μ1
      refine jv_aload_n rfl rfl rfl (by decide) ?_
      refine jv_callV0 rfl rfl rfl rfl ⟨by decide, rfl⟩ (Nat.le_of_ble_eq_true rfl) (jv_mono hv (fun v2 μ2 hv2 => ?_))
      obtain ⟨rfl, hI2⟩ := hv2
      show jV _ _ jm_p_L_law _ 432 [some (.inr (.inr (-2))), some (.inr (.inr 0)), some (.inr (.inr 94)), some (.inl x)] [.inl r, .inl r] μ2
      refine jv_icmp_eqT rfl rfl rfl ?_
      exact hend μ2 hI2
    · refine jv_aload_n rfl rfl rfl (by decide) ?_
      refine jv_aload_n rfl rfl rfl (by decide) ?_
      refine jv_iload_n rfl rfl rfl ?_
      refine jv_iconst rfl rfl ?_
      refine jv_iadd rfl rfl ⟨by omega, by omega⟩ ?_
      refine jv_xaload (ln := len) (f := sc) rfl rfl ⟨by decide, by decide⟩ rfl ⟨by omega, by omega⟩ ?_
      refine jv_callV1 rfl rfl rfl rfl ⟨by decide, rfl⟩ (Nat.le_of_ble_eq_true rfl) (jv_mono (g19 _ (hsc _) μ hI) (fun v μ1 hv => ?_))
      obtain ⟨r, rfl, hv⟩ := hv
      show jV _ _ jm_p_L_law _ 442 [some (.inr (.inr (-2))), some (.inr (.inr 0)), some (.inr (.inr 94)), some (.inl x)] [.inl r] μ1
      refine jv_aload_n rfl rfl rfl (by decide) ?_
      refine jv_aload_n rfl rfl rfl (by decide) ?_
      refine jv_iload_n rfl rfl rfl ?_
      refine jv_iconst rfl rfl ?_
      refine jv_iadd rfl rfl ⟨by omega, by omega⟩ ?_
      refine jv_xaload (ln := len) (f := sc) rfl rfl ⟨by decide, by decide⟩ rfl ⟨by omega, by omega⟩ ?_
      refine jv_callV1 rfl rfl rfl rfl ⟨by decide, rfl⟩ (Nat.le_of_ble_eq_true rfl) (jv_mono hv (fun v2 μ2 hv2 => ?_))
      obtain ⟨rfl, hI2⟩ := hv2
      show jV _ _ jm_p_L_law _ 449 [some (.inr (.inr (-2))), some (.inr (.inr 0)), some (.inr (.inr 94)), some (.inl x)] [.inl r, .inl r] μ2
      refine jv_icmp_eqT rfl rfl rfl ?_
      exact hend μ2 hI2
    · refine jv_aload_n rfl rfl rfl (by decide) ?_
      refine jv_aload_n rfl rfl rfl (by decide) ?_
      refine jv_iload_n rfl rfl rfl ?_
      refine jv_iconst rfl rfl ?_
      refine jv_iadd rfl rfl ⟨by omega, by omega⟩ ?_
      refine jv_xaload (ln := len) (f := sc) rfl rfl ⟨by decide, by decide⟩ rfl ⟨by omega, by omega⟩ ?_
      refine jv_callV1 rfl rfl rfl rfl ⟨by decide, rfl⟩ (Nat.le_of_ble_eq_true rfl) (jv_mono (g20 _ (hsc _) μ hI) (fun v μ1 hv => ?_))
      obtain ⟨r, rfl, hv⟩ := hv
      show jV _ _ jm_p_L_law _ 459 [some (.inr (.inr (-2))), some (.inr (.inr 0)), some (.inr (.inr 94)), some (.inl x)] [.inl r] μ1
      refine jv_aload_n rfl rfl rfl (by decide) ?_
      refine jv_aload_n rfl rfl rfl (by decide) ?_
      refine jv_iload_n rfl rfl rfl ?_
      refine jv_iconst rfl rfl ?_
      refine jv_iadd rfl rfl ⟨by omega, by omega⟩ ?_
      refine jv_xaload (ln := len) (f := sc) rfl rfl ⟨by decide, by decide⟩ rfl ⟨by omega, by omega⟩ ?_
      refine jv_callV1 rfl rfl rfl rfl ⟨by decide, rfl⟩ (Nat.le_of_ble_eq_true rfl) (jv_mono hv (fun v2 μ2 hv2 => ?_))
      obtain ⟨rfl, hI2⟩ := hv2
      show jV _ _ jm_p_L_law _ 466 [some (.inr (.inr (-2))), some (.inr (.inr 0)), some (.inr (.inr 94)), some (.inl x)] [.inl r, .inl r] μ2
      refine jv_icmp_eqT rfl rfl rfl ?_
      exact hend μ2 hI2
    · refine jv_aload_n rfl rfl rfl (by decide) ?_
      refine jv_aload_n rfl rfl rfl (by decide) ?_
      refine jv_iload_n rfl rfl rfl ?_
      refine jv_iconst rfl rfl ?_
      refine jv_iadd rfl rfl ⟨by omega, by omega⟩ ?_
      refine jv_xaload (ln := len) (f := sc) rfl rfl ⟨by decide, by decide⟩ rfl ⟨by omega, by omega⟩ ?_
      refine jv_aload_n rfl rfl rfl (by decide) ?_
      refine jv_iload_n rfl rfl rfl ?_
      refine jv_iconst rfl rfl ?_
      refine jv_iadd rfl rfl ⟨by omega, by omega⟩ ?_
      refine jv_xaload (ln := len) (f := sc) rfl rfl ⟨by decide, by decide⟩ rfl ⟨by omega, by omega⟩ ?_
      refine jv_aload_n rfl rfl rfl (by decide) ?_
      refine jv_iload_n rfl rfl rfl ?_
      refine jv_iconst rfl rfl ?_
      refine jv_iadd rfl rfl ⟨by omega, by omega⟩ ?_
      refine jv_xaload (ln := len) (f := sc) rfl rfl ⟨by decide, by decide⟩ rfl ⟨by omega, by omega⟩ ?_
      refine jv_callV3 rfl rfl rfl rfl ⟨by decide, rfl⟩ (Nat.le_of_ble_eq_true rfl) (jv_mono (g21 _ _ _ (hsc _) (hsc _) (hsc _) μ hI) (fun v μ1 hv => ?_))
      obtain ⟨r, rfl, hv⟩ := hv
      show jV _ _ jm_p_L_law _ 486 [some (.inr (.inr (-2))), some (.inr (.inr 0)), some (.inr (.inr 94)), some (.inl x)] [.inl r] μ1
      refine jv_aload_n rfl rfl rfl (by decide) ?_
      refine jv_aload_n rfl rfl rfl (by decide) ?_
      refine jv_iload_n rfl rfl rfl ?_
      refine jv_iconst rfl rfl ?_
      refine jv_iadd rfl rfl ⟨by omega, by omega⟩ ?_
      refine jv_xaload (ln := len) (f := sc) rfl rfl ⟨by decide, by decide⟩ rfl ⟨by omega, by omega⟩ ?_
      refine jv_aload_n rfl rfl rfl (by decide) ?_
      refine jv_iload_n rfl rfl rfl ?_
      refine jv_iconst rfl rfl ?_
      refine jv_iadd rfl rfl ⟨by omega, by omega⟩ ?_
      refine jv_xaload (ln := len) (f := sc) rfl rfl ⟨by decide, by decide⟩ rfl ⟨by omega, by omega⟩ ?_
      refine jv_aload_n rfl rfl rfl (by decide) ?_
      refine jv_iload_n rfl rfl rfl ?_
      refine jv_iconst rfl rfl ?_
      refine jv_iadd rfl rfl ⟨by omega, by omega⟩ ?_
      refine jv_xaload (ln := len) (f := sc) rfl rfl ⟨by decide, by decide⟩ rfl ⟨by omega, by omega⟩ ?_
      refine jv_callV3 rfl rfl rfl rfl ⟨by decide, rfl⟩ (Nat.le_of_ble_eq_true rfl) (jv_mono hv (fun v2 μ2 hv2 => ?_))
      obtain ⟨rfl, hI2⟩ := hv2
      show jV _ _ jm_p_L_law _ 503 [some (.inr (.inr (-2))), some (.inr (.inr 0)), some (.inr (.inr 94)), some (.inl x)] [.inl r, .inl r] μ2
      refine jv_icmp_eqT rfl rfl rfl ?_
      exact hend μ2 hI2
    · refine jv_aload_n rfl rfl rfl (by decide) ?_
      refine jv_aload_n rfl rfl rfl (by decide) ?_
      refine jv_iload_n rfl rfl rfl ?_
      refine jv_iconst rfl rfl ?_
      refine jv_iadd rfl rfl ⟨by omega, by omega⟩ ?_
      refine jv_xaload (ln := len) (f := sc) rfl rfl ⟨by decide, by decide⟩ rfl ⟨by omega, by omega⟩ ?_
      refine jv_callV1 rfl rfl rfl rfl ⟨by decide, rfl⟩ (Nat.le_of_ble_eq_true rfl) (jv_mono (g22 _ (hsc _) μ hI) (fun v μ1 hv => ?_))
      obtain ⟨r, rfl, hv⟩ := hv
      show jV _ _ jm_p_L_law _ 513 [some (.inr (.inr (-2))), some (.inr (.inr 0)), some (.inr (.inr 94)), some (.inl x)] [.inl r] μ1
      refine jv_aload_n rfl rfl rfl (by decide) ?_
      refine jv_aload_n rfl rfl rfl (by decide) ?_
      refine jv_iload_n rfl rfl rfl ?_
      refine jv_iconst rfl rfl ?_
      refine jv_iadd rfl rfl ⟨by omega, by omega⟩ ?_
      refine jv_xaload (ln := len) (f := sc) rfl rfl ⟨by decide, by decide⟩ rfl ⟨by omega, by omega⟩ ?_
      refine jv_callV1 rfl rfl rfl rfl ⟨by decide, rfl⟩ (Nat.le_of_ble_eq_true rfl) (jv_mono hv (fun v2 μ2 hv2 => ?_))
      obtain ⟨rfl, hI2⟩ := hv2
      show jV _ _ jm_p_L_law _ 520 [some (.inr (.inr (-2))), some (.inr (.inr 0)), some (.inr (.inr 94)), some (.inl x)] [.inl r, .inl r] μ2
      refine jv_icmp_eqT rfl rfl rfl ?_
      exact hend μ2 hI2
    · refine jv_aload_n rfl rfl rfl (by decide) ?_
      refine jv_aload_n rfl rfl rfl (by decide) ?_
      refine jv_iload_n rfl rfl rfl ?_
      refine jv_iconst rfl rfl ?_
      refine jv_iadd rfl rfl ⟨by omega, by omega⟩ ?_
      refine jv_xaload (ln := len) (f := sc) rfl rfl ⟨by decide, by decide⟩ rfl ⟨by omega, by omega⟩ ?_
      refine jv_aload_n rfl rfl rfl (by decide) ?_
      refine jv_iload_n rfl rfl rfl ?_
      refine jv_iconst rfl rfl ?_
      refine jv_iadd rfl rfl ⟨by omega, by omega⟩ ?_
      refine jv_xaload (ln := len) (f := sc) rfl rfl ⟨by decide, by decide⟩ rfl ⟨by omega, by omega⟩ ?_
      refine jv_callV2 rfl rfl rfl rfl ⟨by decide, rfl⟩ (Nat.le_of_ble_eq_true rfl) (jv_mono (g23 _ _ (hsc _) (hsc _) μ hI) (fun v μ1 hv => ?_))
      obtain ⟨r, rfl, hv⟩ := hv
      show jV _ _ jm_p_L_law _ 535 [some (.inr (.inr (-2))), some (.inr (.inr 0)), some (.inr (.inr 94)), some (.inl x)] [.inl r] μ1
      refine jv_aload_n rfl rfl rfl (by decide) ?_
      refine jv_aload_n rfl rfl rfl (by decide) ?_
      refine jv_iload_n rfl rfl rfl ?_
      refine jv_iconst rfl rfl ?_
      refine jv_iadd rfl rfl ⟨by omega, by omega⟩ ?_
      refine jv_xaload (ln := len) (f := sc) rfl rfl ⟨by decide, by decide⟩ rfl ⟨by omega, by omega⟩ ?_
      refine jv_aload_n rfl rfl rfl (by decide) ?_
      refine jv_iload_n rfl rfl rfl ?_
      refine jv_iconst rfl rfl ?_
      refine jv_iadd rfl rfl ⟨by omega, by omega⟩ ?_
      refine jv_xaload (ln := len) (f := sc) rfl rfl ⟨by decide, by decide⟩ rfl ⟨by omega, by omega⟩ ?_
      refine jv_callV2 rfl rfl rfl rfl ⟨by decide, rfl⟩ (Nat.le_of_ble_eq_true rfl) (jv_mono hv (fun v2 μ2 hv2 => ?_))
      obtain ⟨rfl, hI2⟩ := hv2
      show jV _ _ jm_p_L_law _ 547 [some (.inr (.inr (-2))), some (.inr (.inr 0)), some (.inr (.inr 94)), some (.inl x)] [.inl r, .inl r] μ2
      refine jv_icmp_eqT rfl rfl rfl ?_
      exact hend μ2 hI2
    · refine jv_aload_n rfl rfl rfl (by decide) ?_
      refine jv_aload_n rfl rfl rfl (by decide) ?_
      refine jv_iload_n rfl rfl rfl ?_
      refine jv_iconst rfl rfl ?_
      refine jv_iadd rfl rfl ⟨by omega, by omega⟩ ?_
      refine jv_xaload (ln := len) (f := sc) rfl rfl ⟨by decide, by decide⟩ rfl ⟨by omega, by omega⟩ ?_
      refine jv_aload_n rfl rfl rfl (by decide) ?_
      refine jv_iload_n rfl rfl rfl ?_
      refine jv_iconst rfl rfl ?_
      refine jv_iadd rfl rfl ⟨by omega, by omega⟩ ?_
      refine jv_xaload (ln := len) (f := sc) rfl rfl ⟨by decide, by decide⟩ rfl ⟨by omega, by omega⟩ ?_
      refine jv_callV2 rfl rfl rfl rfl ⟨by decide, rfl⟩ (Nat.le_of_ble_eq_true rfl) (jv_mono (g24 _ _ (hsc _) (hsc _) μ hI) (fun v μ1 hv => ?_))
      obtain ⟨r, rfl, hv⟩ := hv
      show jV _ _ jm_p_L_law _ 562 [some (.inr (.inr (-2))), some (.inr (.inr 0)), some (.inr (.inr 94)), some (.inl x)] [.inl r] μ1
      refine jv_aload_n rfl rfl rfl (by decide) ?_
      refine jv_aload_n rfl rfl rfl (by decide) ?_
      refine jv_iload_n rfl rfl rfl ?_
      refine jv_iconst rfl rfl ?_
      refine jv_iadd rfl rfl ⟨by omega, by omega⟩ ?_
      refine jv_xaload (ln := len) (f := sc) rfl rfl ⟨by decide, by decide⟩ rfl ⟨by omega, by omega⟩ ?_
      refine jv_aload_n rfl rfl rfl (by decide) ?_
      refine jv_iload_n rfl rfl rfl ?_
      refine jv_iconst rfl rfl ?_
      refine jv_iadd rfl rfl ⟨by omega, by omega⟩ ?_
      refine jv_xaload (ln := len) (f := sc) rfl rfl ⟨by decide, by decide⟩ rfl ⟨by omega, by omega⟩ ?_
      refine jv_callV2 rfl rfl rfl rfl ⟨by decide, rfl⟩ (Nat.le_of_ble_eq_true rfl) (jv_mono hv (fun v2 μ2 hv2 => ?_))
      obtain ⟨rfl, hI2⟩ := hv2
      show jV _ _ jm_p_L_law _ 574 [some (.inr (.inr (-2))), some (.inr (.inr 0)), some (.inr (.inr 94)), some (.inl x)] [.inl r, .inl r] μ2
      refine jv_icmp_eqT rfl rfl rfl ?_
      exact hend μ2 hI2
    · refine jv_aload_n rfl rfl rfl (by decide) ?_
      refine jv_aload_n rfl rfl rfl (by decide) ?_
      refine jv_iload_n rfl rfl rfl ?_
      refine jv_iconst rfl rfl ?_
      refine jv_iadd rfl rfl ⟨by omega, by omega⟩ ?_
      refine jv_xaload (ln := len) (f := sc) rfl rfl ⟨by decide, by decide⟩ rfl ⟨by omega, by omega⟩ ?_
      refine jv_aload_n rfl rfl rfl (by decide) ?_
      refine jv_iload_n rfl rfl rfl ?_
      refine jv_iconst rfl rfl ?_
      refine jv_iadd rfl rfl ⟨by omega, by omega⟩ ?_
      refine jv_xaload (ln := len) (f := sc) rfl rfl ⟨by decide, by decide⟩ rfl ⟨by omega, by omega⟩ ?_
      refine jv_aload_n rfl rfl rfl (by decide) ?_
      refine jv_iload_n rfl rfl rfl ?_
      refine jv_iconst rfl rfl ?_
      refine jv_iadd rfl rfl ⟨by omega, by omega⟩ ?_
      refine jv_xaload (ln := len) (f := sc) rfl rfl ⟨by decide, by decide⟩ rfl ⟨by omega, by omega⟩ ?_
      refine jv_aload_n rfl rfl rfl (by decide) ?_
      refine jv_iload_n rfl rfl rfl ?_
      refine jv_iconst rfl rfl ?_
      refine jv_iadd rfl rfl ⟨by omega, by omega⟩ ?_
      refine jv_xaload (ln := len) (f := sc) rfl rfl ⟨by decide, by decide⟩ rfl ⟨by omega, by omega⟩ ?_
      refine jv_callV4 rfl rfl rfl rfl ⟨by decide, rfl⟩ (Nat.le_of_ble_eq_true rfl) (jv_mono (g25 _ _ _ _ (hsc _) (hsc _) (hsc _) (hsc _) μ hI) (fun v μ1 hv => ?_))
      obtain ⟨r, rfl, hv⟩ := hv
      show jV _ _ jm_p_L_law _ 599 [some (.inr (.inr (-2))), some (.inr (.inr 0)), some (.inr (.inr 94)), some (.inl x)] [.inl r] μ1
      refine jv_aload_n rfl rfl rfl (by decide) ?_
      refine jv_aload_n rfl rfl rfl (by decide) ?_
      refine jv_iload_n rfl rfl rfl ?_
      refine jv_iconst rfl rfl ?_
      refine jv_iadd rfl rfl ⟨by omega, by omega⟩ ?_
      refine jv_xaload (ln := len) (f := sc) rfl rfl ⟨by decide, by decide⟩ rfl ⟨by omega, by omega⟩ ?_
      refine jv_aload_n rfl rfl rfl (by decide) ?_
      refine jv_iload_n rfl rfl rfl ?_
      refine jv_iconst rfl rfl ?_
      refine jv_iadd rfl rfl ⟨by omega, by omega⟩ ?_
      refine jv_xaload (ln := len) (f := sc) rfl rfl ⟨by decide, by decide⟩ rfl ⟨by omega, by omega⟩ ?_
      refine jv_aload_n rfl rfl rfl (by decide) ?_
      refine jv_iload_n rfl rfl rfl ?_
      refine jv_iconst rfl rfl ?_
      refine jv_iadd rfl rfl ⟨by omega, by omega⟩ ?_
      refine jv_xaload (ln := len) (f := sc) rfl rfl ⟨by decide, by decide⟩ rfl ⟨by omega, by omega⟩ ?_
      refine jv_aload_n rfl rfl rfl (by decide) ?_
      refine jv_iload_n rfl rfl rfl ?_
      refine jv_iconst rfl rfl ?_
      refine jv_iadd rfl rfl ⟨by omega, by omega⟩ ?_
      refine jv_xaload (ln := len) (f := sc) rfl rfl ⟨by decide, by decide⟩ rfl ⟨by omega, by omega⟩ ?_
      refine jv_callV4 rfl rfl rfl rfl ⟨by decide, rfl⟩ (Nat.le_of_ble_eq_true rfl) (jv_mono hv (fun v2 μ2 hv2 => ?_))
      obtain ⟨rfl, hI2⟩ := hv2
      show jV _ _ jm_p_L_law _ 621 [some (.inr (.inr (-2))), some (.inr (.inr 0)), some (.inr (.inr 94)), some (.inl x)] [.inl r, .inl r] μ2
      refine jv_icmp_eqT rfl rfl rfl ?_
      exact hend μ2 hI2
    · refine jv_aload_n rfl rfl rfl (by decide) ?_
      refine jv_aload_n rfl rfl rfl (by decide) ?_
      refine jv_iload_n rfl rfl rfl ?_
      refine jv_iconst rfl rfl ?_
      refine jv_iadd rfl rfl ⟨by omega, by omega⟩ ?_
      refine jv_xaload (ln := len) (f := sc) rfl rfl ⟨by decide, by decide⟩ rfl ⟨by omega, by omega⟩ ?_
      refine jv_aload_n rfl rfl rfl (by decide) ?_
      refine jv_iload_n rfl rfl rfl ?_
      refine jv_iconst rfl rfl ?_
      refine jv_iadd rfl rfl ⟨by omega, by omega⟩ ?_
      refine jv_xaload (ln := len) (f := sc) rfl rfl ⟨by decide, by decide⟩ rfl ⟨by omega, by omega⟩ ?_
      refine jv_aload_n rfl rfl rfl (by decide) ?_
      refine jv_iload_n rfl rfl rfl ?_
      refine jv_iconst rfl rfl ?_
      refine jv_iadd rfl rfl ⟨by omega, by omega⟩ ?_
      refine jv_xaload (ln := len) (f := sc) rfl rfl ⟨by decide, by decide⟩ rfl ⟨by omega, by omega⟩ ?_
      refine jv_callV3 rfl rfl rfl rfl ⟨by decide, rfl⟩ (Nat.le_of_ble_eq_true rfl) (jv_mono (g26 _ _ _ (hsc _) (hsc _) (hsc _) μ hI) (fun v μ1 hv => ?_))
      obtain ⟨r, rfl, hv⟩ := hv
      show jV _ _ jm_p_L_law _ 641 [some (.inr (.inr (-2))), some (.inr (.inr 0)), some (.inr (.inr 94)), some (.inl x)] [.inl r] μ1
      refine jv_aload_n rfl rfl rfl (by decide) ?_
      refine jv_aload_n rfl rfl rfl (by decide) ?_
      refine jv_iload_n rfl rfl rfl ?_
      refine jv_iconst rfl rfl ?_
      refine jv_iadd rfl rfl ⟨by omega, by omega⟩ ?_
      refine jv_xaload (ln := len) (f := sc) rfl rfl ⟨by decide, by decide⟩ rfl ⟨by omega, by omega⟩ ?_
      refine jv_aload_n rfl rfl rfl (by decide) ?_
      refine jv_iload_n rfl rfl rfl ?_
      refine jv_iconst rfl rfl ?_
      refine jv_iadd rfl rfl ⟨by omega, by omega⟩ ?_
      refine jv_xaload (ln := len) (f := sc) rfl rfl ⟨by decide, by decide⟩ rfl ⟨by omega, by omega⟩ ?_
      refine jv_aload_n rfl rfl rfl (by decide) ?_
      refine jv_iload_n rfl rfl rfl ?_
      refine jv_iconst rfl rfl ?_
      refine jv_iadd rfl rfl ⟨by omega, by omega⟩ ?_
      refine jv_xaload (ln := len) (f := sc) rfl rfl ⟨by decide, by decide⟩ rfl ⟨by omega, by omega⟩ ?_
      refine jv_callV3 rfl rfl rfl rfl ⟨by decide, rfl⟩ (Nat.le_of_ble_eq_true rfl) (jv_mono hv (fun v2 μ2 hv2 => ?_))
      obtain ⟨rfl, hI2⟩ := hv2
      show jV _ _ jm_p_L_law _ 658 [some (.inr (.inr (-2))), some (.inr (.inr 0)), some (.inr (.inr 94)), some (.inl x)] [.inl r, .inl r] μ2
      refine jv_icmp_eqT rfl rfl rfl ?_
      exact hend μ2 hI2
    · refine jv_aload_n rfl rfl rfl (by decide) ?_
      refine jv_aload_n rfl rfl rfl (by decide) ?_
      refine jv_iload_n rfl rfl rfl ?_
      refine jv_iconst rfl rfl ?_
      refine jv_iadd rfl rfl ⟨by omega, by omega⟩ ?_
      refine jv_xaload (ln := len) (f := sc) rfl rfl ⟨by decide, by decide⟩ rfl ⟨by omega, by omega⟩ ?_
      refine jv_aload_n rfl rfl rfl (by decide) ?_
      refine jv_iload_n rfl rfl rfl ?_
      refine jv_iconst rfl rfl ?_
      refine jv_iadd rfl rfl ⟨by omega, by omega⟩ ?_
      refine jv_xaload (ln := len) (f := sc) rfl rfl ⟨by decide, by decide⟩ rfl ⟨by omega, by omega⟩ ?_
      refine jv_aload_n rfl rfl rfl (by decide) ?_
      refine jv_iload_n rfl rfl rfl ?_
      refine jv_iconst rfl rfl ?_
      refine jv_iadd rfl rfl ⟨by omega, by omega⟩ ?_
      refine jv_xaload (ln := len) (f := sc) rfl rfl ⟨by decide, by decide⟩ rfl ⟨by omega, by omega⟩ ?_
      refine jv_callV3 rfl rfl rfl rfl ⟨by decide, rfl⟩ (Nat.le_of_ble_eq_true rfl) (jv_mono (g27 _ _ _ (hsc _) (hsc _) (hsc _) μ hI) (fun v μ1 hv => ?_))
      obtain ⟨r, rfl, hv⟩ := hv
      show jV _ _ jm_p_L_law _ 678 [some (.inr (.inr (-2))), some (.inr (.inr 0)), some (.inr (.inr 94)), some (.inl x)] [.inl r] μ1
      refine jv_aload_n rfl rfl rfl (by decide) ?_
      refine jv_aload_n rfl rfl rfl (by decide) ?_
      refine jv_iload_n rfl rfl rfl ?_
      refine jv_iconst rfl rfl ?_
      refine jv_iadd rfl rfl ⟨by omega, by omega⟩ ?_
      refine jv_xaload (ln := len) (f := sc) rfl rfl ⟨by decide, by decide⟩ rfl ⟨by omega, by omega⟩ ?_
      refine jv_aload_n rfl rfl rfl (by decide) ?_
      refine jv_iload_n rfl rfl rfl ?_
      refine jv_iconst rfl rfl ?_
      refine jv_iadd rfl rfl ⟨by omega, by omega⟩ ?_
      refine jv_xaload (ln := len) (f := sc) rfl rfl ⟨by decide, by decide⟩ rfl ⟨by omega, by omega⟩ ?_
      refine jv_aload_n rfl rfl rfl (by decide) ?_
      refine jv_iload_n rfl rfl rfl ?_
      refine jv_iconst rfl rfl ?_
      refine jv_iadd rfl rfl ⟨by omega, by omega⟩ ?_
      refine jv_xaload (ln := len) (f := sc) rfl rfl ⟨by decide, by decide⟩ rfl ⟨by omega, by omega⟩ ?_
      refine jv_callV3 rfl rfl rfl rfl ⟨by decide, rfl⟩ (Nat.le_of_ble_eq_true rfl) (jv_mono hv (fun v2 μ2 hv2 => ?_))
      obtain ⟨rfl, hI2⟩ := hv2
      show jV _ _ jm_p_L_law _ 695 [some (.inr (.inr (-2))), some (.inr (.inr 0)), some (.inr (.inr 94)), some (.inl x)] [.inl r, .inl r] μ2
      refine jv_icmp_eqT rfl rfl rfl ?_
      exact hend μ2 hI2
    · refine jv_aload_n rfl rfl rfl (by decide) ?_
      refine jv_aload_n rfl rfl rfl (by decide) ?_
      refine jv_iload_n rfl rfl rfl ?_
      refine jv_iconst rfl rfl ?_
      refine jv_iadd rfl rfl ⟨by omega, by omega⟩ ?_
      refine jv_xaload (ln := len) (f := sc) rfl rfl ⟨by decide, by decide⟩ rfl ⟨by omega, by omega⟩ ?_
      refine jv_callV1 rfl rfl rfl rfl ⟨by decide, rfl⟩ (Nat.le_of_ble_eq_true rfl) (jv_mono (g28 _ (hsc _) μ hI) (fun v μ1 hv => ?_))
      obtain ⟨r, rfl, hv⟩ := hv
      show jV _ _ jm_p_L_law _ 705 [some (.inr (.inr (-2))), some (.inr (.inr 0)), some (.inr (.inr 94)), some (.inl x)] [.inl r] μ1
      refine jv_aload_n rfl rfl rfl (by decide) ?_
      refine jv_aload_n rfl rfl rfl (by decide) ?_
      refine jv_iload_n rfl rfl rfl ?_
      refine jv_iconst rfl rfl ?_
      refine jv_iadd rfl rfl ⟨by omega, by omega⟩ ?_
      refine jv_xaload (ln := len) (f := sc) rfl rfl ⟨by decide, by decide⟩ rfl ⟨by omega, by omega⟩ ?_
      refine jv_callV1 rfl rfl rfl rfl ⟨by decide, rfl⟩ (Nat.le_of_ble_eq_true rfl) (jv_mono hv (fun v2 μ2 hv2 => ?_))
      obtain ⟨rfl, hI2⟩ := hv2
      show jV _ _ jm_p_L_law _ 712 [some (.inr (.inr (-2))), some (.inr (.inr 0)), some (.inr (.inr 94)), some (.inl x)] [.inl r, .inl r] μ2
      refine jv_icmp_eqT rfl rfl rfl ?_
      exact hend μ2 hI2
    · refine jv_aload_n rfl rfl rfl (by decide) ?_
      refine jv_aload_n rfl rfl rfl (by decide) ?_
      refine jv_iload_n rfl rfl rfl ?_
      refine jv_iconst rfl rfl ?_
      refine jv_iadd rfl rfl ⟨by omega, by omega⟩ ?_
      refine jv_xaload (ln := len) (f := sc) rfl rfl ⟨by decide, by decide⟩ rfl ⟨by omega, by omega⟩ ?_
      refine jv_callV1 rfl rfl rfl rfl ⟨by decide, rfl⟩ (Nat.le_of_ble_eq_true rfl) (jv_mono (g29 _ (hsc _) μ hI) (fun v μ1 hv => ?_))
      obtain ⟨r, rfl, hv⟩ := hv
      show jV _ _ jm_p_L_law _ 722 [some (.inr (.inr (-2))), some (.inr (.inr 0)), some (.inr (.inr 94)), some (.inl x)] [.inl r] μ1
      refine jv_aload_n rfl rfl rfl (by decide) ?_
      refine jv_aload_n rfl rfl rfl (by decide) ?_
      refine jv_iload_n rfl rfl rfl ?_
      refine jv_iconst rfl rfl ?_
      refine jv_iadd rfl rfl ⟨by omega, by omega⟩ ?_
      refine jv_xaload (ln := len) (f := sc) rfl rfl ⟨by decide, by decide⟩ rfl ⟨by omega, by omega⟩ ?_
      refine jv_callV1 rfl rfl rfl rfl ⟨by decide, rfl⟩ (Nat.le_of_ble_eq_true rfl) (jv_mono hv (fun v2 μ2 hv2 => ?_))
      obtain ⟨rfl, hI2⟩ := hv2
      show jV _ _ jm_p_L_law _ 729 [some (.inr (.inr (-2))), some (.inr (.inr 0)), some (.inr (.inr 94)), some (.inl x)] [.inl r, .inl r] μ2
      refine jv_icmp_eqT rfl rfl rfl ?_
      exact hend μ2 hI2
    · refine jv_aload_n rfl rfl rfl (by decide) ?_
      refine jv_aload_n rfl rfl rfl (by decide) ?_
      refine jv_iload_n rfl rfl rfl ?_
      refine jv_iconst rfl rfl ?_
      refine jv_iadd rfl rfl ⟨by omega, by omega⟩ ?_
      refine jv_xaload (ln := len) (f := sc) rfl rfl ⟨by decide, by decide⟩ rfl ⟨by omega, by omega⟩ ?_
      refine jv_callV1 rfl rfl rfl rfl ⟨by decide, rfl⟩ (Nat.le_of_ble_eq_true rfl) (jv_mono (g30 _ (hsc _) μ hI) (fun v μ1 hv => ?_))
      obtain ⟨r, rfl, hv⟩ := hv
      show jV _ _ jm_p_L_law _ 739 [some (.inr (.inr (-2))), some (.inr (.inr 0)), some (.inr (.inr 94)), some (.inl x)] [.inl r] μ1
      refine jv_aload_n rfl rfl rfl (by decide) ?_
      refine jv_aload_n rfl rfl rfl (by decide) ?_
      refine jv_iload_n rfl rfl rfl ?_
      refine jv_iconst rfl rfl ?_
      refine jv_iadd rfl rfl ⟨by omega, by omega⟩ ?_
      refine jv_xaload (ln := len) (f := sc) rfl rfl ⟨by decide, by decide⟩ rfl ⟨by omega, by omega⟩ ?_
      refine jv_callV1 rfl rfl rfl rfl ⟨by decide, rfl⟩ (Nat.le_of_ble_eq_true rfl) (jv_mono hv (fun v2 μ2 hv2 => ?_))
      obtain ⟨rfl, hI2⟩ := hv2
      show jV _ _ jm_p_L_law _ 746 [some (.inr (.inr (-2))), some (.inr (.inr 0)), some (.inr (.inr 94)), some (.inl x)] [.inl r, .inl r] μ2
      refine jv_icmp_eqT rfl rfl rfl ?_
      exact hend μ2 hI2
    · refine jv_aload_n rfl rfl rfl (by decide) ?_
      refine jv_aload_n rfl rfl rfl (by decide) ?_
      refine jv_iload_n rfl rfl rfl ?_
      refine jv_iconst rfl rfl ?_
      refine jv_iadd rfl rfl ⟨by omega, by omega⟩ ?_
      refine jv_xaload (ln := len) (f := sc) rfl rfl ⟨by decide, by decide⟩ rfl ⟨by omega, by omega⟩ ?_
      refine jv_aload_n rfl rfl rfl (by decide) ?_
      refine jv_iload_n rfl rfl rfl ?_
      refine jv_iconst rfl rfl ?_
      refine jv_iadd rfl rfl ⟨by omega, by omega⟩ ?_
      refine jv_xaload (ln := len) (f := sc) rfl rfl ⟨by decide, by decide⟩ rfl ⟨by omega, by omega⟩ ?_
      refine jv_callV2 rfl rfl rfl rfl ⟨by decide, rfl⟩ (Nat.le_of_ble_eq_true rfl) (jv_mono (g31 _ _ (hsc _) (hsc _) μ hI) (fun v μ1 hv => ?_))
      obtain ⟨r, rfl, hv⟩ := hv
      show jV _ _ jm_p_L_law _ 761 [some (.inr (.inr (-2))), some (.inr (.inr 0)), some (.inr (.inr 94)), some (.inl x)] [.inl r] μ1
      refine jv_aload_n rfl rfl rfl (by decide) ?_
      refine jv_aload_n rfl rfl rfl (by decide) ?_
      refine jv_iload_n rfl rfl rfl ?_
      refine jv_iconst rfl rfl ?_
      refine jv_iadd rfl rfl ⟨by omega, by omega⟩ ?_
      refine jv_xaload (ln := len) (f := sc) rfl rfl ⟨by decide, by decide⟩ rfl ⟨by omega, by omega⟩ ?_
      refine jv_aload_n rfl rfl rfl (by decide) ?_
      refine jv_iload_n rfl rfl rfl ?_
      refine jv_iconst rfl rfl ?_
      refine jv_iadd rfl rfl ⟨by omega, by omega⟩ ?_
      refine jv_xaload (ln := len) (f := sc) rfl rfl ⟨by decide, by decide⟩ rfl ⟨by omega, by omega⟩ ?_
      refine jv_callV2 rfl rfl rfl rfl ⟨by decide, rfl⟩ (Nat.le_of_ble_eq_true rfl) (jv_mono hv (fun v2 μ2 hv2 => ?_))
      obtain ⟨rfl, hI2⟩ := hv2
      show jV _ _ jm_p_L_law _ 773 [some (.inr (.inr (-2))), some (.inr (.inr 0)), some (.inr (.inr 94)), some (.inl x)] [.inl r, .inl r] μ2
      refine jv_icmp_eqT rfl rfl rfl ?_
      exact hend μ2 hI2
    · refine jv_aload_n rfl rfl rfl (by decide) ?_
      refine jv_aload_n rfl rfl rfl (by decide) ?_
      refine jv_iload_n rfl rfl rfl ?_
      refine jv_iconst rfl rfl ?_
      refine jv_iadd rfl rfl ⟨by omega, by omega⟩ ?_
      refine jv_xaload (ln := len) (f := sc) rfl rfl ⟨by decide, by decide⟩ rfl ⟨by omega, by omega⟩ ?_
      refine jv_aload_n rfl rfl rfl (by decide) ?_
      refine jv_iload_n rfl rfl rfl ?_
      refine jv_iconst rfl rfl ?_
      refine jv_iadd rfl rfl ⟨by omega, by omega⟩ ?_
      refine jv_xaload (ln := len) (f := sc) rfl rfl ⟨by decide, by decide⟩ rfl ⟨by omega, by omega⟩ ?_
      refine jv_callV2 rfl rfl rfl rfl ⟨by decide, rfl⟩ (Nat.le_of_ble_eq_true rfl) (jv_mono (g32 _ _ (hsc _) (hsc _) μ hI) (fun v μ1 hv => ?_))
      obtain ⟨r, rfl, hv⟩ := hv
      show jV _ _ jm_p_L_law _ 788 [some (.inr (.inr (-2))), some (.inr (.inr 0)), some (.inr (.inr 94)), some (.inl x)] [.inl r] μ1
      refine jv_aload_n rfl rfl rfl (by decide) ?_
      refine jv_aload_n rfl rfl rfl (by decide) ?_
      refine jv_iload_n rfl rfl rfl ?_
      refine jv_iconst rfl rfl ?_
      refine jv_iadd rfl rfl ⟨by omega, by omega⟩ ?_
      refine jv_xaload (ln := len) (f := sc) rfl rfl ⟨by decide, by decide⟩ rfl ⟨by omega, by omega⟩ ?_
      refine jv_aload_n rfl rfl rfl (by decide) ?_
      refine jv_iload_n rfl rfl rfl ?_
      refine jv_iconst rfl rfl ?_
      refine jv_iadd rfl rfl ⟨by omega, by omega⟩ ?_
      refine jv_xaload (ln := len) (f := sc) rfl rfl ⟨by decide, by decide⟩ rfl ⟨by omega, by omega⟩ ?_
      refine jv_callV2 rfl rfl rfl rfl ⟨by decide, rfl⟩ (Nat.le_of_ble_eq_true rfl) (jv_mono hv (fun v2 μ2 hv2 => ?_))
      obtain ⟨rfl, hI2⟩ := hv2
      show jV _ _ jm_p_L_law _ 800 [some (.inr (.inr (-2))), some (.inr (.inr 0)), some (.inr (.inr 94)), some (.inl x)] [.inl r, .inl r] μ2
      refine jv_icmp_eqT rfl rfl rfl ?_
      exact hend μ2 hI2
    · refine jv_aload_n rfl rfl rfl (by decide) ?_
      refine jv_aload_n rfl rfl rfl (by decide) ?_
      refine jv_iload_n rfl rfl rfl ?_
      refine jv_iconst rfl rfl ?_
      refine jv_iadd rfl rfl ⟨by omega, by omega⟩ ?_
      refine jv_xaload (ln := len) (f := sc) rfl rfl ⟨by decide, by decide⟩ rfl ⟨by omega, by omega⟩ ?_
      refine jv_callV1 rfl rfl rfl rfl ⟨by decide, rfl⟩ (Nat.le_of_ble_eq_true rfl) (jv_mono (g33 _ (hsc _) μ hI) (fun v μ1 hv => ?_))
      obtain ⟨r, rfl, hv⟩ := hv
      show jV _ _ jm_p_L_law _ 810 [some (.inr (.inr (-2))), some (.inr (.inr 0)), some (.inr (.inr 94)), some (.inl x)] [.inl r] μ1
      refine jv_aload_n rfl rfl rfl (by decide) ?_
      refine jv_aload_n rfl rfl rfl (by decide) ?_
      refine jv_iload_n rfl rfl rfl ?_
      refine jv_iconst rfl rfl ?_
      refine jv_iadd rfl rfl ⟨by omega, by omega⟩ ?_
      refine jv_xaload (ln := len) (f := sc) rfl rfl ⟨by decide, by decide⟩ rfl ⟨by omega, by omega⟩ ?_
      refine jv_callV1 rfl rfl rfl rfl ⟨by decide, rfl⟩ (Nat.le_of_ble_eq_true rfl) (jv_mono hv (fun v2 μ2 hv2 => ?_))
      obtain ⟨rfl, hI2⟩ := hv2
      show jV _ _ jm_p_L_law _ 817 [some (.inr (.inr (-2))), some (.inr (.inr 0)), some (.inr (.inr 94)), some (.inl x)] [.inl r, .inl r] μ2
      refine jv_icmp_eqT rfl rfl rfl ?_
      exact hend μ2 hI2
    · refine jv_aload_n rfl rfl rfl (by decide) ?_
      refine jv_aload_n rfl rfl rfl (by decide) ?_
      refine jv_iload_n rfl rfl rfl ?_
      refine jv_iconst rfl rfl ?_
      refine jv_iadd rfl rfl ⟨by omega, by omega⟩ ?_
      refine jv_xaload (ln := len) (f := sc) rfl rfl ⟨by decide, by decide⟩ rfl ⟨by omega, by omega⟩ ?_
      refine jv_callV1 rfl rfl rfl rfl ⟨by decide, rfl⟩ (Nat.le_of_ble_eq_true rfl) (jv_mono (g34 _ (hsc _) μ hI) (fun v μ1 hv => ?_))
      obtain ⟨r, rfl, hv⟩ := hv
      show jV _ _ jm_p_L_law _ 827 [some (.inr (.inr (-2))), some (.inr (.inr 0)), some (.inr (.inr 94)), some (.inl x)] [.inl r] μ1
      refine jv_aload_n rfl rfl rfl (by decide) ?_
      refine jv_aload_n rfl rfl rfl (by decide) ?_
      refine jv_iload_n rfl rfl rfl ?_
      refine jv_iconst rfl rfl ?_
      refine jv_iadd rfl rfl ⟨by omega, by omega⟩ ?_
      refine jv_xaload (ln := len) (f := sc) rfl rfl ⟨by decide, by decide⟩ rfl ⟨by omega, by omega⟩ ?_
      refine jv_callV1 rfl rfl rfl rfl ⟨by decide, rfl⟩ (Nat.le_of_ble_eq_true rfl) (jv_mono hv (fun v2 μ2 hv2 => ?_))
      obtain ⟨rfl, hI2⟩ := hv2
      show jV _ _ jm_p_L_law _ 834 [some (.inr (.inr (-2))), some (.inr (.inr 0)), some (.inr (.inr 94)), some (.inl x)] [.inl r, .inl r] μ2
      refine jv_icmp_eqT rfl rfl rfl ?_
      exact hend μ2 hI2
    · refine jv_aload_n rfl rfl rfl (by decide) ?_
      refine jv_callV0 rfl rfl rfl rfl ⟨by decide, rfl⟩ (Nat.le_of_ble_eq_true rfl) (jv_mono (g35  μ hI) (fun v μ1 hv => ?_))
      obtain ⟨r, rfl, hv⟩ := hv
      show jV _ _ jm_p_L_law _ 839 [some (.inr (.inr (-2))), some (.inr (.inr 0)), some (.inr (.inr 94)), some (.inl x)] [.inl r] μ1
      refine jv_aload_n rfl rfl rfl (by decide) ?_
      refine jv_callV0 rfl rfl rfl rfl ⟨by decide, rfl⟩ (Nat.le_of_ble_eq_true rfl) (jv_mono hv (fun v2 μ2 hv2 => ?_))
      obtain ⟨rfl, hI2⟩ := hv2
      show jV _ _ jm_p_L_law _ 841 [some (.inr (.inr (-2))), some (.inr (.inr 0)), some (.inr (.inr 94)), some (.inl x)] [.inl r, .inl r] μ2
      refine jv_icmp_eqT rfl rfl rfl ?_
      exact hend μ2 hI2
    · exact hend μ hI
