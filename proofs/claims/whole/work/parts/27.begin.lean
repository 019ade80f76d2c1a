theorem jx_get {μ : jm_M} (h : jx_mem μ = true) (i : Nat) (n : Nat) (hn : (jm_SH.getD i (0, 0, [])).2.1 = n) (hi : i < 104) {j : Int} (j0 : 0 ≤ j) (j1 : j < n) : μ (i : Int) j = jx_want i j.toNat := by
  have h1 := List.all_eq_true.mp h i (List.mem_range.mpr hi)
  have h2 := List.all_eq_true.mp h1 j.toNat (List.mem_range.mpr (by rw [hn]; omega))
  have h3 := of_decide_eq_true h2
  rw [Int.toNat_of_nonneg j0] at h3
  exact h3
theorem jx_ids {μ : jm_M} (h : jx_mem μ = true) (i a s : Int) (n k : Nat) (hk : (k : Int) = i) (hn : (jm_SH.getD k (0, 0, [])).2.1 = n) (hi : k < 104) (hw : ∀ j : Nat, j < n → jx_want k j = a + s * (j : Int)) : ∀ m : Int, 0 ≤ m → m < (n : Int) → μ i m = a + s * m := by
  intro m m0 m1
  have h1 := jx_get h k n hn hi m0 m1
  rw [hk, hw m.toNat (by omega), Int.toNat_of_nonneg m0] at h1
  exact h1
set_option maxRecDepth 10000 in
theorem jI_start {μ : jm_M} (h : jx_mem μ = true) : jI μ := by
  have z95 : ∀ j, 0 ≤ j → j < 1736 → μ 95 j = 0 := fun j a b => jx_get h 95 1736 rfl (by decide) a b
  have z2 : ∀ j, 0 ≤ j → j < 320 → μ 2 j = 0 := fun j a b => jx_get h 2 320 rfl (by decide) a b
  have z99 : ∀ j, 0 ≤ j → j < 320 → μ 99 j = 0 := fun j a b => jx_get h 99 320 rfl (by decide) a b
  have z3 : ∀ j, 0 ≤ j → j < 8 → μ 3 j = 0 := fun j a b => jx_get h 3 8 rfl (by decide) a b
  have z97 : ∀ j, 0 ≤ j → j < 8 → μ 97 j = 0 := fun j a b => jx_get h 97 8 rfl (by decide) a b
  have z4 := jx_ids h 4 (-1) 0 8 4 rfl rfl (by decide) (by decide)
  have z98 := jx_ids h 98 (-1) 0 8 98 rfl rfl (by decide) (by decide)
  have z0 : ∀ j, 0 ≤ j → j < 12 → μ 0 j = 0 := fun j a b => jx_get h 0 12 rfl (by decide) a b
  have z94 : ∀ j, 0 ≤ j → j < 18 → μ 94 j = 0 := fun j a b => jx_get h 94 18 rfl (by decide) a b
  have z5 : ∀ j, 0 ≤ j → j < 4 → μ 5 j = 0 := fun j a b => jx_get h 5 4 rfl (by decide) a b
  have z7 : ∀ j, 0 ≤ j → j < 6 → μ 7 j = 0 := fun j a b => jx_get h 7 6 rfl (by decide) a b
  have z43 : ∀ j, 0 ≤ j → j < 3 → μ 43 j = 0 := fun j a b => jx_get h 43 3 rfl (by decide) a b
  have z58 : ∀ j, 0 ≤ j → j < 2 → μ 58 j = 0 := fun j a b => jx_get h 58 2 rfl (by decide) a b
  have z42 : ∀ j, 0 ≤ j → j < 2 → μ 42 j = 0 := fun j a b => jx_get h 42 2 rfl (by decide) a b
  have z96 : ∀ j, 0 ≤ j → j < 2 → μ 96 j = 0 := fun j a b => jx_get h 96 2 rfl (by decide) a b
  have i8 := jx_ids h 8 10 2 4 8 rfl rfl (by decide) (by decide)
  have i9 := jx_ids h 9 18 1 6 9 rfl rfl (by decide) (by decide)
  have i25 := jx_ids h 25 27 2 4 25 rfl rfl (by decide) (by decide)
  have i26 := jx_ids h 26 35 1 6 26 rfl rfl (by decide) (by decide)
  have i61 := jx_ids h 61 63 2 4 61 rfl rfl (by decide) (by decide)
  have i62 := jx_ids h 62 71 1 6 62 rfl rfl (by decide) (by decide)
  have i78 := jx_ids h 78 80 2 4 78 rfl rfl (by decide) (by decide)
  have i79 := jx_ids h 79 88 1 6 79 rfl rfl (by decide) (by decide)
  have i41 := jx_ids h 41 60 17 2 41 rfl rfl (by decide) (by decide)
  have s11 : ∀ k, 0 ≤ k → k < 6 → μ 11 k = 0 := fun j a b => jx_get h 11 6 rfl (by decide) a b
  have s13 : ∀ k, 0 ≤ k → k < 6 → μ 13 k = 0 := fun j a b => jx_get h 13 6 rfl (by decide) a b
  have s15 : ∀ k, 0 ≤ k → k < 6 → μ 15 k = 0 := fun j a b => jx_get h 15 6 rfl (by decide) a b
  have s17 : ∀ k, 0 ≤ k → k < 6 → μ 17 k = 0 := fun j a b => jx_get h 17 6 rfl (by decide) a b
  have hwf : jt_wf (μ 95) := by
    have l0 : ∀ m, 0 ≤ m → m < 4 → jt_lies (μ 95) m = 0 := by
      intro m m0 m1
      unfold jt_lies
      rw [z95 _ (by omega) (by omega), z95 _ (by omega) (by omega), z95 _ (by omega) (by omega), z95 _ (by omega) (by omega), z95 _ (by omega) (by omega), z95 _ (by omega) (by omega)]
      rfl
    refine ⟨by rw [z95 _ (by omega) (by omega)]; decide, by rw [z95 _ (by omega) (by omega)]; decide, by rw [z95 _ (by omega) (by omega)]; decide, by rw [z95 _ (by omega) (by omega)]; decide, fun m m0 m1 => by rw [z95 _ (by omega) (by omega)]; decide, fun j j0 j1 => by rw [z95 _ (by omega) (by omega)]; decide, fun m m0 m1 => by rw [l0 m m0 m1, z95 _ (by omega) (by omega)]; decide, fun c c0 c1 => ?_⟩
    rw [z95 _ (by omega) (by omega), z95 _ (by omega) (by omega), z95 _ (by omega) (by omega), z95 _ (by omega) (by omega)]
    decide
  have m0 : μ 95 0 = 0 := z95 0 (by decide) (by decide)
  have m1 : μ 95 1 = 0 := z95 1 (by decide) (by decide)
  refine ⟨⟨fun j a b => by rw [z2 j a b, z99 j a b], fun r a b => ?_⟩, ⟨?_, ?_, ?_⟩, ⟨?_, ?_, ?_⟩, ⟨?_, ?_⟩, ⟨hwf, ?_, ?_, ?_, ?_, ?_, ?_, ?_⟩, ⟨?_, ?_, ?_, ?_⟩, ⟨?_, ?_⟩, ⟨?_, ?_, ?_, ?_⟩⟩
  · have h4 := z4 r a b
    have h8 := z98 r a b
    rw [z3 r a b, z97 r a b]
    omega
  · rw [z5 1 (by decide) (by decide), z94 8 (by decide) (by decide)]
  · rw [z94 8 (by decide) (by decide)]; decide
  · intro j a b; rw [z94 8 (by decide) (by decide)] at b; omega
  · rw [z58 1 (by decide) (by decide), z94 12 (by decide) (by decide)]
  · rw [z94 12 (by decide) (by decide)]; decide
  · intro j a b; rw [z94 12 (by decide) (by decide)] at b; omega
  · rw [z0 11 (by decide) (by decide), z94 10 (by decide) (by decide)]
  · rw [z0 10 (by decide) (by decide), z94 9 (by decide) (by decide)]
  · intro c c0 c1; rw [z95 _ (by omega) (by omega)]; decide
  · intro c c0 c1; rw [m1] at c1; omega
  · refine ⟨fun m a b => ?_, fun m m' a b a' b' q => ?_, fun c a b => ?_⟩
    · have := i8 m a b
      show μ 8 m = _ ∨ μ 8 m = _ ∨ μ 8 m = _ ∨ μ 8 m = _
      omega
    · have q : μ 8 m = μ 8 m' := q
      have := i8 m a b
      have := i8 m' a' b'
      omega
    · have := i9 c a b
      show μ 9 c = _
      omega
  · refine ⟨⟨by rw [z7 _ (by decide) (by decide), z95 _ (by decide) (by decide)], by rw [z7 _ (by decide) (by decide), z95 _ (by decide) (by decide)], by rw [z7 _ (by decide) (by decide), z95 _ (by decide) (by decide)], by rw [z7 _ (by decide) (by decide), z95 _ (by decide) (by decide)]⟩, fun m a b => by rw [m0] at b; omega, fun m a b k k0 k1 => ?_, fun c a b => by rw [m1] at b; omega⟩
    rw [m0] at a
    have hm := i8 m a b
    show μ (μ 8 m + 1) k = 0
    rw [hm]
    rcases (show m = 0 ∨ m = 1 ∨ m = 2 ∨ m = 3 by omega) with rfl | rfl | rfl | rfl
    · exact s11 k k0 k1
    · exact s13 k k0 k1
    · exact s15 k k0 k1
    · exact s17 k k0 k1
  · left; exact z94 1 (by decide) (by decide)
  · rw [z94 1 (by decide) (by decide), m0]; decide
  · intro _; exact m1
  · intro m a b
    have := i25 m a b
    have := i61 m a b
    have := i78 m a b
    omega
  · intro m a b
    have := i26 m a b
    have := i62 m a b
    have := i79 m a b
    omega
  · exact i41 0 (by decide) (by decide)
  · exact i41 1 (by decide) (by decide)
  · exact ⟨by rw [z42 0 (by decide) (by decide), z96 0 (by decide) (by decide)], Or.inl (z96 0 (by decide) (by decide)), fun q => by rw [z96 0 (by decide) (by decide)] at q; cases q⟩
  · exact ⟨by rw [z42 1 (by decide) (by decide), z96 1 (by decide) (by decide)], Or.inl (z96 1 (by decide) (by decide)), fun q => by rw [z96 1 (by decide) (by decide)] at q; cases q⟩
  · rw [z94 2 (by decide) (by decide)]; decide
  · rw [z43 2 (by decide) (by decide), z94 2 (by decide) (by decide)]
  · rw [z43 1 (by decide) (by decide)]; decide
  · intro k a b; rw [z94 2 (by decide) (by decide)] at b; omega
/-- the law, out of the pairs -/
theorem jx_run {len : Nat} {sc : Int → Int} (hlen : len ≤ 384) (hsc : ∀ j, jm_r (sc j)) (hp : jp_all len sc) : jm_WP (jm_xt len sc) (jm_CW (jm_xt len sc) jm_PP 200) (104, 4049) jm_p_L_law (fun v _ => v = [.inl 1]) 0 [some (.inr (.inr (-2))), none, none, none] [] ([], fun _ _ => 0) :=
  jx_law (fun μ hm => law_loop hlen hsc hp 400 0 μ (jI_start hm) (by decide) (by omega) (by decide))
