/-- two mats behind one another have changed places: w of their countries' soils -/
def jt_swp (f : Int → Int) (m w : Int) : Int → Int := fun j => if j = 4 + m then f (4 + m + 1) else if j = 4 + m + 1 then f (4 + m) else if 8 + 6 * m ≤ j ∧ j < 8 + 6 * m + w then f (j + 6) else if 8 + 6 * m + 6 ≤ j ∧ j < 8 + 6 * m + 6 + w then f (j - 6) else f j
def jsw (m a : Int) : Int := if a = m then m + 1 else if a = m + 1 then m else a
theorem jsw_r {m a : Int} (hm : 0 ≤ m) {n : Int} (hn : m + 1 < n) (a0 : 0 ≤ a) (a1 : a < n) : 0 ≤ jsw m a ∧ jsw m a < n := by
  unfold jsw
  (repeat' split) <;> omega
theorem jsw_i {m a b : Int} (h : jsw m a = jsw m b) : a = b := by
  unfold jsw at h
  (repeat' split at h) <;> omega
theorem jt_swp_c {t : Int → Int} {m a : Int} (hm : 0 ≤ m) (a0 : 0 ≤ a) (a1 : a < 4) : jt_swp t m 6 (4 + a) = t (4 + jsw m a) := by
  unfold jt_swp jsw
  by_cases h1 : a = m
  · rw [if_pos (by omega), if_pos h1, Int.add_assoc]
  · rw [if_neg (by omega), if_neg h1]
    by_cases h2 : a = m + 1
    · rw [if_pos (by omega), if_pos h2]
    · rw [if_neg (by omega), if_neg h2, if_neg (by omega), if_neg (by omega)]
theorem jt_swp_l {t : Int → Int} {m a k : Int} (hm : 0 ≤ m ∧ m + 1 < 4) (a0 : 0 ≤ a) (k0 : 0 ≤ k) (k1 : k < 6) : jt_swp t m 6 (8 + 6 * a + k) = t (8 + 6 * jsw m a + k) := by
  unfold jt_swp jsw
  rw [if_neg (by omega), if_neg (by omega)]
  by_cases h1 : a = m
  · rw [if_pos (by omega), if_pos h1]
    congr 1
    omega
  · rw [if_neg (by omega), if_neg h1]
    by_cases h2 : a = m + 1
    · rw [if_pos (by omega), if_pos h2]
      congr 1
      omega
    · rw [if_neg (by omega), if_neg h2]
theorem jt_swp_o {t : Int → Int} {m j : Int} (hm : 0 ≤ m ∧ m + 1 < 4) (h : j < 4 ∨ 32 ≤ j) : jt_swp t m 6 j = t j := by
  unfold jt_swp
  rw [if_neg (by omega), if_neg (by omega), if_neg (by omega), if_neg (by omega)]
theorem jt_swp_lies {t : Int → Int} {m a : Int} (hm : 0 ≤ m ∧ m + 1 < 4) (a0 : 0 ≤ a) : jt_lies (jt_swp t m 6) a = jt_lies t (jsw m a) := by
  have q := fun k k0 k1 => jt_swp_l (t := t) (a := a) (k := k) hm a0 k0 k1
  have q0 := q 0 (by decide) (by decide)
  rw [Int.add_zero, Int.add_zero] at q0
  unfold jt_lies
  rw [q0, q 1 (by decide) (by decide), q 2 (by decide) (by decide), q 3 (by decide) (by decide), q 4 (by decide) (by decide), q 5 (by decide) (by decide)]
theorem jt_swp_wf {t : Int → Int} {m : Int} (hm : 0 ≤ m ∧ m + 1 < 4) (hw : jt_wf t) : jt_wf (jt_swp t m 6) := by
  obtain ⟨w0, w1, w2, w3, w4, w6, w7, w8⟩ := hw
  have o := fun j h => jt_swp_o (t := t) (m := m) (j := j) hm h
  refine ⟨by rw [o 0 (by omega)]; exact w0, by rw [o 1 (by omega)]; exact w1, by rw [o 2 (by omega)]; exact w2, by rw [o 3 (by omega)]; exact w3, fun a a0 a1 => ?_, fun j j0 j1 => ?_, fun a a0 a1 => ?_, fun x x0 x1 => ?_⟩
  · rw [jt_swp_c hm.1 a0 a1]
    have r := jsw_r hm.1 hm.2 a0 a1
    exact w4 _ r.1 r.2
  · have e : jt_swp t m 6 j = t (8 + 6 * jsw m ((j - 8) / 6) + (j - 8) % 6) := by
      have q := jt_swp_l (t := t) (m := m) (a := (j - 8) / 6) (k := (j - 8) % 6) hm (by omega) (by omega) (by omega)
      rw [show 8 + 6 * ((j - 8) / 6) + (j - 8) % 6 = j by omega] at q
      exact q
    rw [e]
    have r := jsw_r (a := (j - 8) / 6) hm.1 hm.2 (by omega) (by omega)
    exact w6 _ (by omega) (by omega)
  · have r := jsw_r hm.1 hm.2 a0 a1
    rw [jt_swp_lies hm a0, o 2 (by omega)]
    exact w7 _ r.1 r.2
  · rw [o _ (by omega), o _ (by omega), o _ (by omega), o _ (by omega)]
    exact w8 x x0 x1
theorem jt_same_swp {t : Int → Int} {m : Int} (hm : 0 ≤ m ∧ m + 1 < 4) : jt_same t (jt_swp t m 6) := by
  have o := fun j h => jt_swp_o (t := t) (m := m) (j := j) hm h
  refine ⟨o 0 (by omega), o 1 (by omega), o 2 (by omega), o 3 (by omega), fun x x0 x1 => ?_⟩
  rw [o (32 + x) (by omega), o (44 + x) (by omega), o (50 + x) (by omega)]
  exact ⟨rfl, rfl, rfl⟩
theorem jt_cf_swp {t : Int → Int} {m K : Int} (hm : 0 ≤ m ∧ m + 1 < 4) (h : jt_cf t K) : jt_cf (jt_swp t m 6) K := fun x x0 x1 => by
  rw [jt_swp_o hm (by omega)]
  exact h x x0 x1
theorem jrel_swap {μ μ2 : jm_M} {t : Int → Int} {m : Int} (hw : jt_wf t) (hmat : jh_mats μ 7) (hr : jh_rel μ 7 t) (hm : 0 ≤ m ∧ m + 1 < t 0) (f : ∀ u, u ≠ 8 → μ2 u = μ u) (e : ∀ a, μ2 8 a = μ 8 (jsw m a)) : jh_mats μ2 7 ∧ jh_rel μ2 7 (jt_swp t m 6) := by
  have w0 := hw.1
  have w1 := hw.2.1
  have hm4 : 0 ≤ m ∧ m + 1 < 4 := by omega
  have dm : ∀ m, 0 ≤ m → m < 4 → μ 8 m = 7 + 3 ∨ μ 8 m = 7 + 5 ∨ μ 8 m = 7 + 7 ∨ μ 8 m = 7 + 9 := hmat.1
  have o := fun j h => jt_swp_o (t := t) (m := m) (j := j) hm4 h
  obtain ⟨⟨r0, r1, r2, r3⟩, rm, rz, rc⟩ := hr
  have rm' : ∀ m, 0 ≤ m → m < t 0 → μ (μ 8 m) 0 = t (4 + m) ∧ ∀ k, 0 ≤ k → k < 6 → μ (μ 8 m + 1) k = t (8 + 6 * m + k) := rm
  have rz' : ∀ m, t 0 ≤ m → m < 4 → ∀ k, 0 ≤ k → k < 6 → μ (μ 8 m + 1) k = 0 := rz
  have e7 : μ2 7 = μ 7 := f 7 (by decide)
  have e9 : μ2 9 = μ 9 := f 9 (by decide)
  refine ⟨⟨fun a a0 a1 => ?_, fun a b a0 a1 b0 b1 q => ?_, fun c c0 c1 => ?_⟩, ⟨by rw [e7, o 2 (by omega)]; exact r0, by rw [e7, o 3 (by omega)]; exact r1, by rw [e7, o 0 (by omega)]; exact r2, by rw [e7, o 1 (by omega)]; exact r3⟩, fun a a0 a1 => ?_, fun a a0 a1 k k0 k1 => ?_, fun x x0 x1 => ?_⟩
  · show μ2 8 a = _ ∨ μ2 8 a = _ ∨ μ2 8 a = _ ∨ μ2 8 a = _
    have r := jsw_r hm4.1 hm4.2 a0 a1
    rw [e]
    exact dm _ r.1 r.2
  · have q : μ2 8 a = μ2 8 b := q
    have ra := jsw_r hm4.1 hm4.2 a0 a1
    have rb := jsw_r hm4.1 hm4.2 b0 b1
    rw [e, e] at q
    exact jsw_i (hmat.2.1 _ _ ra.1 ra.2 rb.1 rb.2 q)
  · show μ2 9 c = _
    rw [e9]
    exact hmat.2.2 c c0 c1
  · rw [o 0 (by omega)] at a1
    show μ2 (μ2 8 a) 0 = _ ∧ ∀ k, 0 ≤ k → k < 6 → μ2 (μ2 8 a + 1) k = _
    have r := jsw_r hm.1 hm.2 a0 a1
    have da := dm (jsw m a) r.1 (by omega)
    rw [e, f (μ 8 (jsw m a)) (by omega), f (μ 8 (jsw m a) + 1) (by omega), jt_swp_c hm.1 a0 (by omega)]
    refine ⟨(rm' _ r.1 r.2).1, fun k k0 k1 => ?_⟩
    rw [jt_swp_l hm4 a0 k0 k1]
    exact (rm' _ r.1 r.2).2 k k0 k1
  · rw [o 0 (by omega)] at a0
    show μ2 (μ2 8 a + 1) k = 0
    have ea : jsw m a = a := by unfold jsw; rw [if_neg (by omega), if_neg (by omega)]
    have da := dm a (by omega) a1
    rw [e, ea, f (μ 8 a + 1) (by omega)]
    exact rz' a a0 a1 k k0 k1
  · rw [o 1 (by omega)] at x1
    rw [f (7 + 11 + x) (by omega), o (32 + x) (by omega), o (38 + x) (by omega), o (44 + x) (by omega), o (50 + x) (by omega), o (56 + x) (by omega)]
    exact rc x x0 x1
set_option maxRecDepth 10000 in
theorem cl_swap {X : jm_X} {d : Nat} {Q : jv_P} {μ : jm_M} {m : Int} (hmat : jh_mats μ 7) (hm : 0 ≤ m ∧ m + 1 < 4) (k : ∀ μ2 : jm_M, (∀ u, u ≠ 8 → μ2 u = μ u) → (∀ a, μ2 8 a = μ 8 (jsw m a)) → Q [] μ2) : cV X (d + 1) 44 [.inr (.inr 7), .inl m] μ Q := by
  refine jv_enter (d := d + 0) jm_p_X4_swapWithNext [some (.inr (.inr 7)), some (.inl m), none] rfl rfl rfl (Nat.le_of_ble_eq_true rfl) rfl rfl ?_
  refine jv_aload_n rfl rfl rfl (by decide) ?_
  refine jv_getr (w := 8) rfl rfl rfl ⟨by decide, rfl⟩ rfl rfl ?_
  refine jv_iload_n rfl rfl rfl ?_
  refine jv_aaload rfl rfl rfl ⟨by decide, by decide, by decide⟩ ⟨by omega, by omega⟩ ?_
  refine jv_astore_n (L2 := [some (.inr (.inr 7)), some (.inl m), some (.inr (.inr (μ 8 m)))]) rfl rfl (by have := (jz_mat7 hmat (m := m) (by omega) (by omega)).2.2; omega) rfl ?_
  refine jv_aload_n rfl rfl rfl (by decide) ?_
  refine jv_getr (w := 8) rfl rfl rfl ⟨by decide, rfl⟩ rfl rfl ?_
  refine jv_iload_n rfl rfl rfl ?_
  refine jv_aload_n rfl rfl rfl (by decide) ?_
  refine jv_getr (w := 8) rfl rfl rfl ⟨by decide, rfl⟩ rfl rfl ?_
  refine jv_iload_n rfl rfl rfl ?_
  refine jv_iconst rfl rfl ?_
  refine jv_iadd rfl rfl ⟨by omega, by omega⟩ ?_
  refine jv_aaload rfl rfl rfl ⟨by decide, by decide, by decide⟩ ⟨by omega, by omega⟩ ?_
  refine jv_aastore rfl rfl rfl (jz_mat7 hmat (m := m + 1) (by omega) (by omega)).1 ⟨by decide, ⟨(jz_mat7 hmat (m := m + 1) (by omega) (by omega)).2.2.1, by have := (jz_mat7 hmat (m := m + 1) (by omega) (by omega)).2.2; omega⟩, Or.inl ⟨rfl, rfl⟩⟩ ⟨by omega, by omega⟩ (fun μ14 eμ14 => ?_)
  refine jv_aload_n rfl rfl rfl (by decide) ?_
  refine jv_getr (w := 8) rfl rfl rfl ⟨by decide, rfl⟩ rfl rfl ?_
  refine jv_iload_n rfl rfl rfl ?_
  refine jv_iconst rfl rfl ?_
  refine jv_iadd rfl rfl ⟨by omega, by omega⟩ ?_
  refine jv_aload_n rfl rfl rfl (by have := (jz_mat7 hmat (m := m) (by omega) (by omega)).2.2; omega) ?_
  refine jv_aastore rfl rfl rfl (jz_mat7 hmat (m := m) (by omega) (by omega)).1 ⟨by decide, ⟨(jz_mat7 hmat (m := m) (by omega) (by omega)).2.2.1, by have := (jz_mat7 hmat (m := m) (by omega) (by omega)).2.2; omega⟩, Or.inl ⟨rfl, rfl⟩⟩ ⟨by omega, by omega⟩ (fun μ21 eμ21 => ?_)
  refine jv_return rfl ?_
  refine k _ (fun u q => by rw [eμ21, jm_uc_ne q, eμ14, jm_uc_ne q]) (fun a => ?_)
  rw [eμ21, jm_uc_self, eμ14, jm_uc_self]
  unfold jm_u1 jsw
  by_cases h1 : a = m
  · rw [if_neg (by omega), if_pos h1, if_pos h1]
  · rw [if_neg h1, if_neg h1]
    by_cases h2 : a = m + 1
    · rw [if_pos h2, if_pos h2]
    · rw [if_neg h2, if_neg h2]
set_option maxRecDepth 10000 in
theorem mo_swap {X : jm_X} {d : Nat} {Q : jv_P} {μ : jm_M} {a b : Int} (ha : 0 ≤ a ∧ a < 1736) (hb : 0 ≤ b ∧ b < 1736) (hab : a ≠ b) (k : ∀ μ2 : jm_M, (∀ u, u ≠ 95 → μ2 u = μ u) → (∀ j, μ2 95 j = if j = a then μ 95 b else if j = b then μ 95 a else μ 95 j) → Q [] μ2) : cV X (d + 1) 174 [.inr (.inr 94), .inl a, .inl b] μ Q := by
  refine jv_enter (d := d + 0) jm_p_X10_swapPlaces [some (.inr (.inr 94)), some (.inl a), some (.inl b), none] rfl rfl rfl (Nat.le_of_ble_eq_true rfl) rfl rfl ?_
  refine jv_aload_n rfl rfl rfl (by decide) ?_
  refine jv_getr (w := 95) rfl rfl rfl ⟨by decide, rfl⟩ rfl rfl ?_
  refine jv_iload_n rfl rfl rfl ?_
  refine jv_iaload rfl rfl (by decide) rfl ⟨by omega, by omega⟩ ?_
  refine jv_istore_n (fun x => [some (.inr (.inr 94)), some (.inl a), some (.inl b), some (.inl x)]) rfl rfl (fun _ => rfl) (fun x3_4 ex3_4 => ?_)
  refine jv_aload_n rfl rfl rfl (by decide) ?_
  refine jv_getr (w := 95) rfl rfl rfl ⟨by decide, rfl⟩ rfl rfl ?_
  refine jv_iload_n rfl rfl rfl ?_
  refine jv_aload_n rfl rfl rfl (by decide) ?_
  refine jv_getr (w := 95) rfl rfl rfl ⟨by decide, rfl⟩ rfl rfl ?_
  refine jv_iload_n rfl rfl rfl ?_
  refine jv_iaload rfl rfl (by decide) rfl ⟨by omega, by omega⟩ ?_
  refine jv_iastore rfl rfl rfl (by decide) ⟨by omega, by omega⟩ (fun μ12 eμ12 => ?_)
  refine jv_aload_n rfl rfl rfl (by decide) ?_
  refine jv_getr (w := 95) rfl rfl rfl ⟨by decide, rfl⟩ rfl rfl ?_
  refine jv_iload_n rfl rfl rfl ?_
  refine jv_iload_n rfl rfl rfl ?_
  refine jv_iastore rfl rfl rfl (by decide) ⟨by omega, by omega⟩ (fun μ17 eμ17 => ?_)
  refine jv_return rfl ?_
  refine k _ (fun u q => by rw [eμ17, jm_uc_ne q, eμ12, jm_uc_ne q]) (fun j => ?_)
  rw [eμ17, jm_uc_self, eμ12, jm_uc_self, ex3_4]
  unfold jm_u1
  by_cases h1 : j = a
  · rw [if_neg (by omega), if_pos h1, if_pos h1]
  · rw [if_neg h1, if_neg h1]
set_option maxRecDepth 10000 in
theorem mo_change_l {X : jm_X} {d : Nat} {Q : jv_P} {m : Int} {μ0 : jm_M} (hm : 0 ≤ m ∧ m + 1 < 4) (k : ∀ μ2 : jm_M, (∀ u, u ≠ 95 → μ2 u = μ0 u) → (∀ j, μ2 95 j = jt_swp (μ0 95) m 6 j) → Q [.inl (μ0 95 (4 + m + 1))] μ2) : ∀ (n : Nat) (w : Int) (μ : jm_M), 0 ≤ w → w ≤ 6 → 6 - w < n → (∀ u, u ≠ 95 → μ u = μ0 u) → (∀ j, μ 95 j = jt_swp (μ0 95) m w j) → jV X (d + 1) jm_p_X10_change Q 28 [some (.inr (.inr 94)), some (.inl m), some (.inl w)] [] μ := by
  intro n
  induction n with
  | zero => intro w μ y0 y1 yn hf hr; exfalso; omega
  | succ n ih =>
    intro w μ y0 y1 yn hf hr
    refine jv_iload_n rfl rfl rfl ?_
    refine jv_bipush rfl rfl ?_
    refine jv_icmp_ge rfl rfl rfl (fun c30 => ?_) (fun c30 => ?_)
    · refine jv_aload_n rfl rfl rfl (by decide) ?_
      refine jv_getr (w := 95) rfl rfl rfl ⟨by decide, rfl⟩ rfl rfl ?_
      refine jv_iconst rfl rfl ?_
      refine jv_iload_n rfl rfl rfl ?_
      refine jv_iadd rfl rfl ⟨by omega, by omega⟩ ?_
      refine jv_iaload rfl rfl (by decide) rfl ⟨by omega, by omega⟩ ?_
      refine jv_ireturn rfl (Or.inl rfl) ?_
      have hx : w = 6 := by omega
      rw [hx] at hr
      have e4 := hr (4 + m)
      have e5 : jt_swp (μ0 95) m 6 (4 + m) = μ0 95 (4 + m + 1) := if_pos rfl
      rw [e4, e5]
      exact k _ hf hr
    · refine jv_aload_n rfl rfl rfl (by decide) ?_
      refine jv_bipush rfl rfl ?_
      refine jv_bipush rfl rfl ?_
      refine jv_iload_n rfl rfl rfl ?_
      refine jv_imul rfl rfl ⟨by omega, by omega⟩ ?_
      refine jv_iadd rfl rfl ⟨by omega, by omega⟩ ?_
      refine jv_iload_n rfl rfl rfl ?_
      refine jv_iadd rfl rfl ⟨by omega, by omega⟩ ?_
      refine jv_bipush rfl rfl ?_
      refine jv_bipush rfl rfl ?_
      refine jv_iload_n rfl rfl rfl ?_
      refine jv_imul rfl rfl ⟨by omega, by omega⟩ ?_
      refine jv_iadd rfl rfl ⟨by omega, by omega⟩ ?_
      refine jv_bipush rfl rfl ?_
      refine jv_iadd rfl rfl ⟨by omega, by omega⟩ ?_
      refine jv_iload_n rfl rfl rfl ?_
      refine jv_iadd rfl rfl ⟨by omega, by omega⟩ ?_
      refine jv_callV2 rfl rfl rfl rfl ⟨by decide, rfl⟩ (Nat.le_of_ble_eq_true rfl) (mo_swap (by omega) (by omega) (by omega) (fun μ48 fμ48 gμ48 => ?_))
      show jV _ _ jm_p_X10_change _ 49 [some (.inr (.inr 94)), some (.inl m), some (.inl w)] [] μ48
      refine jv_iinc (fun x => [some (.inr (.inr 94)), some (.inl m), some (.inl x)]) rfl rfl rfl ⟨by omega, by omega⟩ (fun _ => rfl) (fun x2_49 ex2_49 => ?_)
      refine jv_goto rfl rfl ?_
      refine ih x2_49 μ48 (by omega) (by omega) (by omega) (fun u q => by rw [fμ48 u q, hf u q]) (fun j => ?_)
      rw [gμ48 j, ex2_49]
      by_cases h1 : j = 8 + 6 * m + w
      · rw [if_pos h1, hr]
        unfold jt_swp
        rw [if_neg (by omega), if_neg (by omega), if_neg (by omega), if_neg (by omega), if_neg (by omega), if_neg (by omega), if_pos (by omega)]
        congr 1
        omega
      · rw [if_neg h1]
        by_cases h2 : j = 8 + 6 * m + 6 + w
        · rw [if_pos h2, hr]
          unfold jt_swp
          rw [if_neg (by omega), if_neg (by omega), if_neg (by omega), if_neg (by omega), if_neg (by omega), if_neg (by omega), if_neg (by omega), if_pos (by omega)]
          congr 1
          omega
        · rw [if_neg h2, hr]
          unfold jt_swp
          by_cases h3 : j = 4 + m
          · rw [if_pos h3, if_pos h3]
          · rw [if_neg h3, if_neg h3]
            by_cases h4 : j = 4 + m + 1
            · rw [if_pos h4, if_pos h4]
            · rw [if_neg h4, if_neg h4]
              by_cases h5 : 8 + 6 * m ≤ j ∧ j < 8 + 6 * m + w
              · rw [if_pos h5, if_pos (by omega)]
              · rw [if_neg h5]
                by_cases h6 : 8 + 6 * m + 6 ≤ j ∧ j < 8 + 6 * m + 6 + w
                · rw [if_pos h6, if_neg (by omega), if_pos (by omega)]
                · rw [if_neg h6, if_neg (by omega), if_neg (by omega)]
set_option maxRecDepth 10000 in
set_option maxHeartbeats 1000000 in
theorem pr_change {X : jm_X} {m : Int} (r_m : jm_r m) : jp X 97 175 [.inl m] := by
  intro μ hI
  obtain ⟨⟨hit, hlan⟩, ⟨ht0, ht1, ht2⟩, ⟨hr0, hr1, hr2⟩, ⟨hst, hfa⟩, htown, hidle, himg, hpast⟩ := id hI
  obtain ⟨hwf, hcf, hkd, hmat, hrel, hh01, hhot, hnc⟩ := id htown
  obtain ⟨⟨r0, r1, r2, r3⟩, rm, rz, rc⟩ := id hrel
  obtain ⟨w0, w1, w2, w3, w4, w6, w7, w8⟩ := id hwf
  have hHμ := jH_of hI
  obtain ⟨hp0, hp1, hp2, -⟩ := id hpast
  have hcf5 : jt_cf (μ 95) 100000 := fun c a b => by have q := hcf c a b; omega
  refine jv_enter (d := 199) jm_p_X9_change [some (.inr (.inr 0)), some (.inl m)] rfl rfl rfl (Nat.le_of_ble_eq_true rfl) rfl rfl ?_
  refine jv_aload_n rfl rfl rfl (by decide) ?_
  refine jv_iload_n rfl rfl rfl ?_
  refine jv_callV1 rfl rfl rfl rfl ⟨by decide, rfl⟩ (Nat.le_of_ble_eq_true rfl) (cl_noMat (fun b2 => ?_) (fun b2 => ?_))
  · show jV _ _ jm_p_X9_change _ 3 [some (.inr (.inr 0)), some (.inl m)] [.inl 1] μ
    refine jv_if_neT rfl rfl (by decide) ?_
    refine jv_ldc rfl rfl ?_
    refine jv_ireturn rfl (Or.inl rfl) ?_
    refine ⟨_, rfl, ?_⟩
    skip
    refine jv_enter (d := 199) jm_p_X10_change [some (.inr (.inr 94)), some (.inl m), none] rfl rfl rfl (Nat.le_of_ble_eq_true rfl) rfl rfl ?_
    refine jv_iload_n rfl rfl rfl ?_
    refine jv_i2l rfl rfl ?_
    refine jv_lconst rfl rfl ?_
    refine jv_aload_n rfl rfl rfl (by decide) ?_
    refine jv_getr (w := 95) rfl rfl rfl ⟨by decide, rfl⟩ rfl rfl ?_
    refine jv_iconst rfl rfl ?_
    refine jv_iaload rfl rfl (by decide) rfl ⟨by omega, by omega⟩ ?_
    refine jv_iconst rfl rfl ?_
    refine jv_isub rfl rfl ⟨by omega, by omega⟩ ?_
    refine jv_i2l rfl rfl ?_
    refine jv_callS3 rfl rfl rfl (Nat.le_of_ble_eq_true rfl) (mo_in (fun b10 => ?_) (fun b10 => ?_))
    · first
      | (exfalso; omega)
      | skip
        show jV _ _ jm_p_X10_change _ 11 [some (.inr (.inr 94)), some (.inl m), none] [.inl 1] μ
        refine jv_if_neT rfl rfl (by decide) ?_
        refine jv_aload_n rfl rfl rfl (by decide) ?_
        refine jv_callV0 rfl rfl rfl rfl ⟨by decide, rfl⟩ (Nat.le_of_ble_eq_true rfl) (mo_keepPast (by omega) (fun ν15 kν15 tν15 => ?_))
        show jV _ _ jm_p_X10_change _ 16 [some (.inr (.inr 94)), some (.inl m), none] [] ν15
        have hUν15 : jU ν15 (μ 95) := fun j j0 j1 => by rw [tν15 j j0 j1, g95]
        have v0ν15 : ν15 95 0 = μ 95 0 := hUν15 0 (by decide) (by decide)
        have v1ν15 : ν15 95 1 = μ 95 1 := hUν15 1 (by decide) (by decide)
        refine jv_aload_n rfl rfl rfl (by decide) ?_
        refine jv_iconst rfl rfl ?_
        refine jv_iload_n rfl rfl rfl ?_
        refine jv_iadd rfl rfl ⟨by omega, by omega⟩ ?_
        refine jv_iconst rfl rfl ?_
        refine jv_iload_n rfl rfl rfl ?_
        refine jv_iadd rfl rfl ⟨by omega, by omega⟩ ?_
        refine jv_iconst rfl rfl ?_
        refine jv_iadd rfl rfl ⟨by omega, by omega⟩ ?_
        refine jv_callV2 rfl rfl rfl rfl ⟨by decide, rfl⟩ (Nat.le_of_ble_eq_true rfl) (mo_swap (by omega) (by omega) (by omega) (fun ν25 fν25 gν25 => ?_))
        show jV _ _ jm_p_X10_change _ 26 [some (.inr (.inr 94)), some (.inl m), none] [] ν25
        refine jv_iconst rfl rfl ?_
        refine jv_istore_nK (L2 := [some (.inr (.inr 94)), some (.inl m), some (.inl 0)]) rfl rfl rfl ?_
        exfalso; omega
    · first
      | (exfalso; omega)
      | skip
        show jV _ _ jm_p_X10_change _ 11 [some (.inr (.inr 94)), some (.inl m), none] [.inl 0] μ
        refine jv_if_neF rfl rfl (by decide) ?_
        refine jv_ldc rfl rfl ?_
        refine jv_ireturn rfl (Or.inl rfl) ?_
        exact ⟨jv_one (by omega), hI⟩
  · show jV _ _ jm_p_X9_change _ 3 [some (.inr (.inr 0)), some (.inl m)] [.inl 0] μ
    refine jv_if_neF rfl rfl (by decide) ?_
    refine jv_aload_n rfl rfl rfl (by decide) ?_
    refine jv_iload_n rfl rfl rfl ?_
    refine jv_iconst rfl rfl ?_
    refine jv_iadd rfl rfl ⟨by omega, by omega⟩ ?_
    refine jv_callV1 rfl rfl rfl rfl ⟨by decide, rfl⟩ (Nat.le_of_ble_eq_true rfl) (cl_noMat (fun b8 => ?_) (fun b8 => ?_))
    · show jV _ _ jm_p_X9_change _ 9 [some (.inr (.inr 0)), some (.inl m)] [.inl 1] μ
      refine jv_if_eqF rfl rfl (by decide) ?_
      refine jv_ldc rfl rfl ?_
      refine jv_ireturn rfl (Or.inl rfl) ?_
      refine ⟨_, rfl, ?_⟩
      skip
      refine jv_enter (d := 199) jm_p_X10_change [some (.inr (.inr 94)), some (.inl m), none] rfl rfl rfl (Nat.le_of_ble_eq_true rfl) rfl rfl ?_
      refine jv_iload_n rfl rfl rfl ?_
      refine jv_i2l rfl rfl ?_
      refine jv_lconst rfl rfl ?_
      refine jv_aload_n rfl rfl rfl (by decide) ?_
      refine jv_getr (w := 95) rfl rfl rfl ⟨by decide, rfl⟩ rfl rfl ?_
      refine jv_iconst rfl rfl ?_
      refine jv_iaload rfl rfl (by decide) rfl ⟨by omega, by omega⟩ ?_
      refine jv_iconst rfl rfl ?_
      refine jv_isub rfl rfl ⟨by omega, by omega⟩ ?_
      refine jv_i2l rfl rfl ?_
      refine jv_callS3 rfl rfl rfl (Nat.le_of_ble_eq_true rfl) (mo_in (fun b10 => ?_) (fun b10 => ?_))
      · first
        | (exfalso; omega)
        | skip
          show jV _ _ jm_p_X10_change _ 11 [some (.inr (.inr 94)), some (.inl m), none] [.inl 1] μ
          refine jv_if_neT rfl rfl (by decide) ?_
          refine jv_aload_n rfl rfl rfl (by decide) ?_
          refine jv_callV0 rfl rfl rfl rfl ⟨by decide, rfl⟩ (Nat.le_of_ble_eq_true rfl) (mo_keepPast (by omega) (fun ν15 kν15 tν15 => ?_))
          show jV _ _ jm_p_X10_change _ 16 [some (.inr (.inr 94)), some (.inl m), none] [] ν15
          have hUν15 : jU ν15 (μ 95) := fun j j0 j1 => by rw [tν15 j j0 j1, g95]
          have v0ν15 : ν15 95 0 = μ 95 0 := hUν15 0 (by decide) (by decide)
          have v1ν15 : ν15 95 1 = μ 95 1 := hUν15 1 (by decide) (by decide)
          refine jv_aload_n rfl rfl rfl (by decide) ?_
          refine jv_iconst rfl rfl ?_
          refine jv_iload_n rfl rfl rfl ?_
          refine jv_iadd rfl rfl ⟨by omega, by omega⟩ ?_
          refine jv_iconst rfl rfl ?_
          refine jv_iload_n rfl rfl rfl ?_
          refine jv_iadd rfl rfl ⟨by omega, by omega⟩ ?_
          refine jv_iconst rfl rfl ?_
          refine jv_iadd rfl rfl ⟨by omega, by omega⟩ ?_
          refine jv_callV2 rfl rfl rfl rfl ⟨by decide, rfl⟩ (Nat.le_of_ble_eq_true rfl) (mo_swap (by omega) (by omega) (by omega) (fun ν25 fν25 gν25 => ?_))
          show jV _ _ jm_p_X10_change _ 26 [some (.inr (.inr 94)), some (.inl m), none] [] ν25
          refine jv_iconst rfl rfl ?_
          refine jv_istore_nK (L2 := [some (.inr (.inr 94)), some (.inl m), some (.inl 0)]) rfl rfl rfl ?_
          exfalso; omega
      · first
        | (exfalso; omega)
        | skip
          show jV _ _ jm_p_X10_change _ 11 [some (.inr (.inr 94)), some (.inl m), none] [.inl 0] μ
          refine jv_if_neF rfl rfl (by decide) ?_
          refine jv_ldc rfl rfl ?_
          refine jv_ireturn rfl (Or.inl rfl) ?_
          exact ⟨jv_one (by omega), hI⟩
    · show jV _ _ jm_p_X9_change _ 9 [some (.inr (.inr 0)), some (.inl m)] [.inl 0] μ
      refine jv_if_eqT rfl rfl (by decide) ?_
      refine jv_aload_n rfl rfl rfl (by decide) ?_
      refine jv_getr (w := 43) rfl rfl rfl ⟨by decide, rfl⟩ rfl rfl ?_
      refine jv_aload_n rfl rfl rfl (by decide) ?_
      refine jv_getr (w := 7) rfl rfl rfl ⟨by decide, rfl⟩ rfl rfl ?_
      refine jv_callV1 rfl rfl rfl rfl ⟨by decide, rfl⟩ (Nat.le_of_ble_eq_true rfl) (cl_keep hHμ hp2 (by omega) (fun μ16 kμ16 => ?_))
      show jV _ _ jm_p_X9_change _ 17 [some (.inr (.inr 0)), some (.inl m)] [] μ16
      have hHμ16 := jH_kk hHμ kμ16
      have n3μ16 := jH_3 hHμ16
      have n2μ16 := jH_2 hHμ16
      refine jv_aload_n rfl rfl rfl (by decide) ?_
      refine jv_getr (w := 7) rfl rfl rfl ⟨by decide, rfl⟩ rfl rfl ?_
      refine jv_iload_n rfl rfl rfl ?_
      refine jv_callV1 rfl rfl rfl rfl ⟨by decide, rfl⟩ (Nat.le_of_ble_eq_true rfl) (cl_swap hHμ16.2.2.1 (by omega) (fun μ20 fμ20 gμ20 => ?_))
      show jV _ _ jm_p_X9_change _ 21 [some (.inr (.inr 0)), some (.inl m)] [] μ20
      have hsw := jrel_swap hwf hHμ16.2.2.1 hHμ16.2.2.2 (by omega) fμ20 gμ20
      have hHμ20 : jH μ20 (jt_swp (μ 95) m 6) := ⟨jt_swp_wf (by omega) hwf, fun x x0 x1 => by
          rw [jt_swp_o (by omega) (by omega)] at x1 ⊢
          exact hkd x x0 x1, hsw.1, hsw.2⟩
      refine jv_aload_n rfl rfl rfl (by decide) ?_
      refine jv_getr (w := 7) rfl rfl rfl ⟨by decide, rfl⟩ rfl rfl ?_
      refine jv_getr (w := 8) rfl rfl rfl ⟨by decide, rfl⟩ rfl rfl ?_
      refine jv_iload_n rfl rfl rfl ?_
      refine jv_aaload rfl rfl rfl ⟨by decide, by decide, by decide⟩ ⟨by omega, by omega⟩ ?_
      refine jv_geti rfl rfl (jz_mat7 hHμ20.2.2.1 (m := m) (by omega) (by omega)).1 ⟨(jz_mat7 hHμ20.2.2.1 (m := m) (by omega) (by omega)).2.2.1, rfl⟩ (by decide) ?_
      refine jv_ireturn rfl (Or.inl rfl) ?_
      refine ⟨_, rfl, ?_⟩
      have fb : ∀ z, (z < 7 ∨ (23 < z ∧ z < 45) ∨ 57 < z) → μ20 z = μ16 z := fun z q => fμ20 z (by omega)
      have g95 : μ20 95 = μ 95 := by rw [fb 95 (by omega), kμ16.1 95 (by decide) (by decide)]
      have g00 : μ20 95 0 = μ 95 0 := by rw [g95]
      have g94 : μ20 94 = μ 94 := by rw [fb 94 (by omega), kμ16.1 94 (by decide) (by decide)]
      have g942 : μ20 94 2 = μ 94 2 := by rw [g94]
      have z0 := jt_swp_o (t := μ 95) (m := m) (j := 0) (by omega) (by omega)
      have hres : μ20 (μ20 8 m) 0 = μ 95 (4 + m + 1) := by
        have q := (hHμ20.2.2.2.2.1 m (by omega) (by omega)).1
        have q2 : μ20 (μ20 8 m) 0 = jt_swp (μ 95) m 6 (4 + m) := q
        rw [q2]
        exact if_pos rfl
      refine jv_enter (d := 199) jm_p_X10_change [some (.inr (.inr 94)), some (.inl m), none] rfl rfl rfl (Nat.le_of_ble_eq_true rfl) rfl rfl ?_
      refine jv_iload_n rfl rfl rfl ?_
      refine jv_i2l rfl rfl ?_
      refine jv_lconst rfl rfl ?_
      refine jv_aload_n rfl rfl rfl (by decide) ?_
      refine jv_getr (w := 95) rfl rfl rfl ⟨by decide, rfl⟩ rfl rfl ?_
      refine jv_iconst rfl rfl ?_
      refine jv_iaload rfl rfl (by decide) rfl ⟨by omega, by omega⟩ ?_
      refine jv_iconst rfl rfl ?_
      refine jv_isub rfl rfl ⟨by omega, by omega⟩ ?_
      refine jv_i2l rfl rfl ?_
      refine jv_callS3 rfl rfl rfl (Nat.le_of_ble_eq_true rfl) (mo_in (fun b10 => ?_) (fun b10 => ?_))
      · first
        | (exfalso; omega)
        | skip
          show jV _ _ jm_p_X10_change _ 11 [some (.inr (.inr 94)), some (.inl m), none] [.inl 1] μ20
          refine jv_if_neT rfl rfl (by decide) ?_
          refine jv_aload_n rfl rfl rfl (by decide) ?_
          refine jv_callV0 rfl rfl rfl rfl ⟨by decide, rfl⟩ (Nat.le_of_ble_eq_true rfl) (mo_keepPast (by omega) (fun ν15 kν15 tν15 => ?_))
          show jV _ _ jm_p_X10_change _ 16 [some (.inr (.inr 94)), some (.inl m), none] [] ν15
          have hUν15 : jU ν15 (μ 95) := fun j j0 j1 => by rw [tν15 j j0 j1, g95]
          have v0ν15 : ν15 95 0 = μ 95 0 := hUν15 0 (by decide) (by decide)
          have v1ν15 : ν15 95 1 = μ 95 1 := hUν15 1 (by decide) (by decide)
          refine jv_aload_n rfl rfl rfl (by decide) ?_
          refine jv_iconst rfl rfl ?_
          refine jv_iload_n rfl rfl rfl ?_
          refine jv_iadd rfl rfl ⟨by omega, by omega⟩ ?_
          refine jv_iconst rfl rfl ?_
          refine jv_iload_n rfl rfl rfl ?_
          refine jv_iadd rfl rfl ⟨by omega, by omega⟩ ?_
          refine jv_iconst rfl rfl ?_
          refine jv_iadd rfl rfl ⟨by omega, by omega⟩ ?_
          refine jv_callV2 rfl rfl rfl rfl ⟨by decide, rfl⟩ (Nat.le_of_ble_eq_true rfl) (mo_swap (by omega) (by omega) (by omega) (fun ν25 fν25 gν25 => ?_))
          show jV _ _ jm_p_X10_change _ 26 [some (.inr (.inr 94)), some (.inl m), none] [] ν25
          refine jv_iconst rfl rfl ?_
          refine jv_istore_nK (L2 := [some (.inr (.inr 94)), some (.inl m), some (.inl 0)]) rfl rfl rfl ?_
          refine mo_change_l (μ0 := ν15) (by omega) (fun μz fz gz => ?_) 7 0 ν25 (by omega) (by omega) (by omega) fν25 (fun j => ?_)
          · have e45 : ν15 95 (4 + m + 1) = μ 95 (4 + m + 1) := hUν15 _ (by omega) (by omega)
            refine ⟨jv_one (by omega), jI_act2 (t' := jt_swp (μ 95) m 6) hI kμ16 fb (jkm_act kν15 (by omega) (ν2 := μz) (t' := jt_swp (μ 95) m 6) ⟨fz, fun j q => ?_, fun j j0 j1 => ?_⟩) (fun j j0 j1 => ?_) hHμ20.2.2.1 hHμ20.2.2.2 hHμ20.1 (jt_cf_swp (by omega) hcf) (jt_same_swp (by omega))⟩
            · rw [gz, jt_swp_o (by omega) (by omega)]
            · rw [gz]
              unfold jt_swp
              (repeat' split) <;> exact hUν15 _ (by omega) (by omega)
            · rw [gz]
              unfold jt_swp
              (repeat' split) <;> exact hUν15 _ (by omega) (by omega)
          · rw [gν25 j]
            unfold jt_swp
            by_cases h1 : j = 4 + m
            · rw [if_pos h1, if_pos h1]
            · rw [if_neg h1, if_neg h1]
              by_cases h2 : j = 4 + m + 1
              · rw [if_pos h2, if_pos h2]
              · rw [if_neg h2, if_neg h2, if_neg (by omega), if_neg (by omega)]
      · first
        | (exfalso; omega)
        | skip
          show jV _ _ jm_p_X10_change _ 11 [some (.inr (.inr 94)), some (.inl m), none] [.inl 0] μ20
          refine jv_if_neF rfl rfl (by decide) ?_
          refine jv_ldc rfl rfl ?_
          refine jv_ireturn rfl (Or.inl rfl) ?_
          exfalso; omega
