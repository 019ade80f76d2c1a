/-! each part of what holds looks at its own cells alone -/
theorem jg_rows {μ μ' : jm_M} (e2 : μ' 2 = μ 2) (e3 : μ' 3 = μ 3) (e4 : μ' 4 = μ 4) (e97 : μ' 97 = μ 97) (e98 : μ' 98 = μ 98) (e99 : μ' 99 = μ 99) (h : ji_rows μ) : ji_rows μ' := by
  unfold ji_rows at *
  rw [e2, e3, e4, e97, e98, e99]
  exact h
theorem jg_tape {μ μ' : jm_M} (e5 : μ' 5 1 = μ 5 1) (e6 : μ' 6 = μ 6) (e100 : μ' 100 = μ 100) (e8 : μ' 94 8 = μ 94 8) (h : ji_tape μ) : ji_tape μ' := by
  unfold ji_tape at *
  rw [e5, e6, e100, e8]
  exact h
theorem jg_trace {μ μ' : jm_M} (e58 : μ' 58 = μ 58) (e59 : μ' 59 = μ 59) (e101 : μ' 101 = μ 101) (e12 : μ' 94 12 = μ 94 12) (h : ji_trace μ) : ji_trace μ' := by
  unfold ji_trace at *
  rw [e58, e59, e101, e12]
  exact h
theorem jg_mats {μ μ' : jm_M} {h : Int} (e1 : μ' (h + 1) = μ (h + 1)) (e2 : μ' (h + 2) = μ (h + 2)) (q : jh_mats μ h) : jh_mats μ' h := by
  unfold jh_mats at *
  rw [e1, e2]
  exact q
theorem jg_rel {μ μ' : jm_M} {h : Int} {t t' : Int → Int} (hm : jh_mats μ h) (e : ∀ z, h ≤ z → z ≤ h + 16 → μ' z = μ z) (et : ∀ k, 0 ≤ k → k < 62 → t' k = t k) (w0 : 0 ≤ t 0 ∧ t 0 ≤ 4) (w1 : 0 ≤ t 1 ∧ t 1 ≤ 6) (q : jh_rel μ h t) : jh_rel μ' h t' := by
  obtain ⟨⟨a1, a2, a3, a4⟩, b, c, d⟩ := q
  refine ⟨⟨by rw [e h (by omega) (by omega), et 2 (by omega) (by omega)]; exact a1, by rw [e h (by omega) (by omega), et 3 (by omega) (by omega)]; exact a2, by rw [e h (by omega) (by omega), et 0 (by omega) (by omega)]; exact a3, by rw [e h (by omega) (by omega), et 1 (by omega) (by omega)]; exact a4⟩, fun m m0 m1 => ?_, fun m m0 m1 k k0 k1 => ?_, fun x x0 x1 => ?_⟩
  · rw [et 0 (by omega) (by omega)] at m1
    have h1 := hm.1 m m0 (by omega)
    rw [e (h + 1) (by omega) (by omega), e (μ (h + 1) m) (by omega) (by omega), e (μ (h + 1) m + 1) (by omega) (by omega), et (4 + m) (by omega) (by omega)]
    refine ⟨(b m m0 m1).1, fun k k0 k1 => ?_⟩
    rw [et _ (by omega) (by omega)]
    exact (b m m0 m1).2 k k0 k1
  · rw [et 0 (by omega) (by omega)] at m0
    have h1 := hm.1 m (by omega) m1
    rw [e (h + 1) (by omega) (by omega), e (μ (h + 1) m + 1) (by omega) (by omega)]
    exact c m m0 m1 k k0 k1
  · rw [et 1 (by omega) (by omega)] at x1
    rw [e _ (by omega) (by omega), et _ (by omega) (by omega), et _ (by omega) (by omega), et _ (by omega) (by omega), et _ (by omega) (by omega), et _ (by omega) (by omega)]
    exact d x x0 x1
theorem jg_town {μ μ' : jm_M} (e : ∀ z, 7 ≤ z → z ≤ 23 → μ' z = μ z) (e95 : μ' 95 = μ 95) (e1 : μ' 94 1 = μ 94 1) (h : ji_town μ) : ji_town μ' := by
  obtain ⟨a, b, c, d, f, g, i, j⟩ := h
  refine ⟨by rw [e95]; exact a, by rw [e95]; exact b, by rw [e95]; exact c, jg_mats (e 8 (by omega) (by omega)) (e 9 (by omega) (by omega)) d, jg_rel d e (fun k _ _ => by rw [e95]) a.1 a.2.1 f, by rw [e1]; exact g, by rw [e1, e95]; exact i, by rw [e95]; exact j⟩
theorem jg_idle {μ μ' : jm_M} (e25 : μ' 25 = μ 25) (e26 : μ' 26 = μ 26) (e61 : μ' 61 = μ 61) (e62 : μ' 62 = μ 62) (e78 : μ' 78 = μ 78) (e79 : μ' 79 = μ 79) (e41 : μ' 41 = μ 41) (h : ji_idle μ) : ji_idle μ' := by
  unfold ji_idle at *
  rw [e25, e26, e61, e62, e78, e79, e41]
  exact h
theorem jg_im60 {μ : jm_M} (h : ji_idle μ) (k : Int) (hk : k = 0 ∨ k = 1) : jh_mats μ (60 + 17 * k) := by
  obtain ⟨a, b, -, -⟩ := h
  rcases hk with rfl | rfl
  · refine ⟨fun m m0 m1 => ?_, fun m m' m0 m1 m0' m1' q => ?_, fun c c0 c1 => ?_⟩
    · have := (a m m0 m1).2.1
      show μ 61 m = _ ∨ μ 61 m = _ ∨ μ 61 m = _ ∨ μ 61 m = _
      omega
    · have q : μ 61 m = μ 61 m' := q
      have := (a m m0 m1).2.1
      have := (a m' m0' m1').2.1
      omega
    · have := (b c c0 c1).2.1
      show μ 62 c = _
      omega
  · refine ⟨fun m m0 m1 => ?_, fun m m' m0 m1 m0' m1' q => ?_, fun c c0 c1 => ?_⟩
    · have := (a m m0 m1).2.2
      show μ 78 m = _ ∨ μ 78 m = _ ∨ μ 78 m = _ ∨ μ 78 m = _
      omega
    · have q : μ 78 m = μ 78 m' := q
      have := (a m m0 m1).2.2
      have := (a m' m0' m1').2.2
      omega
    · have := (b c c0 c1).2.2
      show μ 79 c = _
      omega
theorem jt_cf_congr {t u : Int → Int} {K : Int} (h : ∀ k, 0 ≤ k → k < 62 → t k = u k) (q : jt_cf t K) : jt_cf u K := fun c c0 c1 => by rw [← h _ (by omega) (by omega)]; exact q c c0 c1
theorem jt_kd_congr {t u : Int → Int} (h : ∀ k, 0 ≤ k → k < 62 → t k = u k) (h1 : t 1 ≤ 6) (q : jt_kd t) : jt_kd u := fun c c0 c1 => by
  rw [← h 1 (by omega) (by omega)] at c1
  rw [← h _ (by omega) (by omega)]
  exact q c c0 c1
theorem jg_img {μ μ' : jm_M} {k : Int} (e1 : μ' 94 1 = μ 94 1) (hk : k = 0 ∨ k = 1) (hi : ji_idle μ) (e42 : μ' 42 k = μ 42 k) (e96 : μ' 96 k = μ 96 k) (e : ∀ z, 60 + 17 * k ≤ z → z ≤ 60 + 17 * k + 16 → μ' z = μ z) (et : ∀ j, 0 ≤ j → j < 62 → μ' 95 (1550 + 62 * k + j) = μ 95 (1550 + 62 * k + j)) (h : ji_img μ k) : ji_img μ' k := by
  obtain ⟨a, b, c⟩ := h
  refine ⟨by rw [e42, e96]; exact a, by rw [e96]; exact b, fun q => ?_⟩
  rw [e96] at q
  obtain ⟨c1, c2, c3, c4, c5, c6⟩ := c q
  have hs : ∀ j, 0 ≤ j → j < 62 → (fun j => μ 95 (1550 + 62 * k + j)) j = (fun j => μ' 95 (1550 + 62 * k + j)) j := fun j j0 j1 => (et j j0 j1).symm
  refine ⟨jt_wf_congr hs c1, jt_cf_congr hs c2, jt_kd_congr hs c1.2.1.2 c3, jg_rel (jg_im60 hi k hk) e (fun j j0 j1 => et j j0 j1) c1.1 c1.2.1 c4, ?_, by rw [e1]; exact c6⟩
  have := et 0 (by omega) (by omega)
  rw [Int.add_zero] at this
  rw [this]
  exact c5
theorem jg_past {μ μ' : jm_M} (e2 : μ' 94 2 = μ 94 2) (e43 : μ' 43 = μ 43) (e44 : μ' 44 = μ 44) (e95 : μ' 95 = μ 95) (h : ji_past μ) : ji_past μ' := by
  unfold ji_past at *
  rw [e2, e43, e44, e95]
  exact h
/-- only the objects' own numbers of no part have changed, or both alike -/
theorem jI_same {μ μ' : jm_M} (h : jI μ) (e : ∀ z, z ≠ 0 → z ≠ 94 → μ' z = μ z) (e1 : μ' 94 1 = μ 94 1) (e2 : μ' 94 2 = μ 94 2) (e8 : μ' 94 8 = μ 94 8) (e12 : μ' 94 12 = μ 94 12) (es : μ' 0 11 = μ' 94 10) (ef : μ' 0 10 = μ' 94 9) : jI μ' := by
  obtain ⟨a, b, c, d, f, g, ⟨i0, i1⟩, j⟩ := h
  refine ⟨jg_rows (e 2 (by decide) (by decide)) (e 3 (by decide) (by decide)) (e 4 (by decide) (by decide)) (e 97 (by decide) (by decide)) (e 98 (by decide) (by decide)) (e 99 (by decide) (by decide)) a, jg_tape (by rw [e 5 (by decide) (by decide)]) (e 6 (by decide) (by decide)) (e 100 (by decide) (by decide)) e8 b, jg_trace (e 58 (by decide) (by decide)) (e 59 (by decide) (by decide)) (e 101 (by decide) (by decide)) e12 c, ⟨es, ef⟩, jg_town (fun z z0 z1 => e z (by omega) (by omega)) (e 95 (by decide) (by decide)) e1 f, jg_idle (e _ (by decide) (by decide)) (e _ (by decide) (by decide)) (e _ (by decide) (by decide)) (e _ (by decide) (by decide)) (e _ (by decide) (by decide)) (e _ (by decide) (by decide)) (e _ (by decide) (by decide)) g, ⟨jg_img e1 (Or.inl rfl) g (by rw [e 42 (by decide) (by decide)]) (by rw [e 96 (by decide) (by decide)]) (fun z z0 z1 => e z (by omega) (by omega)) (fun j _ _ => by rw [e 95 (by decide) (by decide)]) i0, jg_img e1 (Or.inr rfl) g (by rw [e 42 (by decide) (by decide)]) (by rw [e 96 (by decide) (by decide)]) (fun z z0 z1 => e z (by omega) (by omega)) (fun j _ _ => by rw [e 95 (by decide) (by decide)]) i1⟩, jg_past e2 (e 43 (by decide) (by decide)) (e 44 (by decide) (by decide)) (e 95 (by decide) (by decide)) j⟩
