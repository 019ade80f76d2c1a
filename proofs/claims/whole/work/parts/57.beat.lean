/-! an act: what is kept, and the new town -/
theorem jt_same_sym {t p : Int → Int} (h : jt_same t p) : jt_same p t := by
  obtain ⟨a, b, c, d, e⟩ := h
  refine ⟨a.symm, b.symm, c.symm, d.symm, fun x x0 x1 => ?_⟩
  have q := e x x0 (by omega)
  exact ⟨q.1.symm, q.2.1.symm, q.2.2.symm⟩
theorem jt_same_tr {t p q : Int → Int} (h : jt_same t p) (k : jt_same t q) : jt_same p q := by
  obtain ⟨a, b, c, d, e⟩ := h
  obtain ⟨a', b', c', d', e'⟩ := k
  refine ⟨by omega, by omega, by omega, by omega, fun x x0 x1 => ?_⟩
  have r := e x x0 (by omega)
  have s := e' x x0 (by omega)
  omega
theorem jg_cell_g {g g' p : Int → Int} {s : Int} (h0 : 0 ≤ p 0 ∧ p 0 ≤ 4) (h1 : p 1 ≤ 6) (e : ∀ j, s ≤ j → j < s + 40 → g' j = g j) (h : jg_cell g s p) : jg_cell g' s p := by
  obtain ⟨a, b, c⟩ := h
  refine ⟨fun m m0 m1 => ?_, fun m m0 m1 k k0 k1 => ?_, fun x x0 x1 => ?_⟩
  · have q := a m m0 m1
    refine ⟨by rw [e _ (by omega) (by omega)]; exact q.1, fun k k0 k1 => ?_⟩
    rw [e _ (by omega) (by omega)]
    exact q.2 k k0 k1
  · rw [e _ (by omega) (by omega)]
    exact b m m0 m1 k k0 k1
  · have q := c x x0 x1
    rw [e _ (by omega) (by omega), e _ (by omega) (by omega)]
    exact q
/-- the reference's town alone has changed: it is t' -/
def ja0 (μ μ2 : jm_M) (t' : Int → Int) : Prop := (∀ z, z ≠ 95 → μ2 z = μ z) ∧ (∀ j, 62 ≤ j → μ2 95 j = μ 95 j) ∧ ∀ j, 0 ≤ j → j < 62 → μ2 95 j = t' j
theorem jkm_act {μ ν ν2 : jm_M} {t' : Int → Int} (h : jkm μ ν) (h0 : 0 ≤ μ 94 2) (k : ja0 ν ν2 t') : jkm μ ν2 := by
  obtain ⟨a, b, c, d, e, f⟩ := h
  obtain ⟨k1, k2, k3⟩ := k
  have e94 : ν2 94 = ν 94 := k1 94 (by decide)
  refine ⟨fun z p q => by rw [k1 z q]; exact a z p q, fun j q => by rw [e94]; exact b j q, by rw [e94]; exact c, fun j q => by rw [k2 j (by omega)]; exact d j q, fun x x0 x1 j j0 j1 => ?_, fun j j0 j1 => ?_⟩
  · rw [e94] at x1
    rw [k2 _ (by omega)]
    exact e x x0 x1 j j0 j1
  · rw [e94, k2 _ (by omega)]
    exact f j j0 j1
theorem jI_act {μ μ1 ν : jm_M} {t' : Int → Int} (h : jI μ) (fc : ∀ z, (z < 7 ∨ (23 < z ∧ z < 43) ∨ 57 < z) → μ1 z = μ z) (f43 : μ1 43 1 = (μ 43 1 + 1) % 24 ∧ μ1 43 2 = min 24 (μ 43 2 + 1)) (f44 : ∀ j, (j < 40 * μ 43 1 ∨ 40 * μ 43 1 + 40 ≤ j) → μ1 44 j = μ 44 j) (fcell : jg_cell (μ1 44) (40 * μ 43 1) (μ 95)) (hm : jkm μ1 ν) (hT : ∀ j, 0 ≤ j → j < 62 → ν 95 j = t' j) (hmat : jh_mats μ1 7) (hrel : jh_rel μ1 7 t') (hw : jt_wf t') (hcf : jt_cf t' 999) (hs : jt_same (μ 95) t') : jI ν := by
  obtain ⟨a, b, c, d, f, g, ⟨i0, i1⟩, j⟩ := h
  obtain ⟨m1, m2, m3, m4, m5, m6⟩ := hm
  have e94 : μ1 94 = μ 94 := fc 94 (by omega)
  have e95 : μ1 95 = μ 95 := fc 95 (by omega)
  rw [e94] at m2 m3 m5
  rw [e95] at m4 m5 m6
  have E : ∀ z, ((z < 7 ∨ (23 < z ∧ z < 43) ∨ 57 < z) ∧ z ≠ 94 ∧ z ≠ 95) → ν z = μ z := fun z q => by rw [m1 z q.2.1 q.2.2, fc z q.1]
  have hT' : ∀ j, 0 ≤ j → j < 62 → t' j = ν 95 j := fun j p q => (hT j p q).symm
  obtain ⟨f1, f2, f3, f4, f5, f6, f7, f8⟩ := f
  have t0 := hT 0 (by decide) (by decide)
  have t1 := hT 1 (by decide) (by decide)
  obtain ⟨s0, s1, s2, s3, s4⟩ := id hs
  have kd : jt_kd t' := fun x x0 x1 => by
    have q := s4 x x0 (by omega)
    have r := f3 x x0 (by omega)
    omega
  have n1 := m2 1 (by decide)
  have hmν : jh_mats ν 7 := jg_mats (m1 8 (by decide) (by decide)) (m1 9 (by decide) (by decide)) hmat
  have hrν : jh_rel ν 7 (ν 95) := jg_rel hmat (fun z p q => m1 z (by omega) (by omega)) hT hw.1 hw.2.1 hrel
  refine ⟨jg_rows (E _ (by decide)) (E _ (by decide)) (E _ (by decide)) (E _ (by decide)) (E _ (by decide)) (E _ (by decide)) a, jg_tape (by rw [E 5 (by decide)]) (E _ (by decide)) (E _ (by decide)) (m2 8 (by decide)) b, jg_trace (E _ (by decide)) (E _ (by decide)) (E _ (by decide)) (m2 12 (by decide)) c, ⟨by rw [E 0 (by decide), m2 10 (by decide)]; exact d.1, by rw [E 0 (by decide), m2 9 (by decide)]; exact d.2⟩, ⟨jt_wf_congr hT' hw, jt_cf_congr hT' hcf, jt_kd_congr hT' hw.2.1.2 kd, hmν, hrν, by rw [n1]; exact f6, by rw [n1, t0, s0]; exact f7, by rw [t0, t1, s0, s1]; exact f8⟩,
    jg_idle (E _ (by decide)) (E _ (by decide)) (E _ (by decide)) (E _ (by decide)) (E _ (by decide)) (E _ (by decide)) (E _ (by decide)) g,
    ⟨jg_img n1 (Or.inl rfl) g (by rw [E 42 (by decide)]) (by rw [E 96 (by decide)]) (fun z z0 z1 => E z (by omega)) (fun k k0 k1 => m4 _ (by omega)) i0, jg_img n1 (Or.inr rfl) g (by rw [E 42 (by decide)]) (by rw [E 96 (by decide)]) (fun z z0 z1 => E z (by omega)) (fun k k0 k1 => m4 _ (by omega)) i1⟩, ?_⟩
  obtain ⟨q0, q1, q2, q3⟩ := j
  have e43 : ν 43 = μ1 43 := m1 43 (by decide) (by decide)
  have e44 : ν 44 = μ1 44 := m1 44 (by decide) (by decide)
  have x1 : ν 43 1 = (μ 43 1 + 1) % 24 := by rw [e43]; exact f43.1
  have x2 : ν 43 2 = min 24 (μ 43 2 + 1) := by rw [e43]; exact f43.2
  refine ⟨by omega, by omega, by omega, fun k k0 k1 => ?_⟩
  by_cases hk : k = ν 94 2 - 1
  · have hp : ∀ j, 0 ≤ j → j < 62 → μ 95 j = (fun j => ν 95 (62 + 62 * k + j)) j := fun j j0 j1 => by
      show μ 95 j = ν 95 (62 + 62 * k + j)
      rw [hk]
      exact (m6 j j0 j1).symm
    refine ⟨jt_wf_congr hp f1, jt_cf_congr hp f2, jt_same_congr hT' hp hw.2.1.2 (jt_same_sym hs), ?_⟩
    rw [e44, show (ν 43 1 + 24 - ν 94 2 + k) % 24 = μ 43 1 by omega]
    exact jg_cell_congr hp f1.1.2 f1.2.1.2 fcell
  · have hk2 : k < ν 94 2 - 1 := by omega
    obtain ⟨k', ek', hk'⟩ : ∃ k', (if μ 94 2 = 24 then k + 1 else k) = k' ∧ (0 ≤ k' ∧ k' < μ 94 2) ∧ (ν 43 1 + 24 - ν 94 2 + k) % 24 = (μ 43 1 + 24 - μ 94 2 + k') % 24 ∧ (μ 43 1 + 24 - μ 94 2 + k') % 24 ≠ μ 43 1 := by
      by_cases z : μ 94 2 = 24
      · exact ⟨k + 1, by rw [if_pos z], by omega, by omega, by omega⟩
      · exact ⟨k, by rw [if_neg z], by omega, by omega, by omega⟩
    obtain ⟨hk1, hk3, hk4⟩ := hk'
    obtain ⟨r1, r2, r3, r4⟩ := q3 k' hk1.1 hk1.2
    have hp : ∀ j, 0 ≤ j → j < 62 → (fun j => μ 95 (62 + 62 * k' + j)) j = (fun j => ν 95 (62 + 62 * k + j)) j := fun j j0 j1 => by
      have z := m5 k k0 hk2 j j0 j1
      rw [ek'] at z
      exact z.symm
    refine ⟨jt_wf_congr hp r1, jt_cf_congr hp r2, jt_same_congr hT' hp hw.2.1.2 (jt_same_tr hs r3), ?_⟩
    rw [e44, hk3]
    refine jg_cell_congr hp r1.1.2 r1.2.1.2 (jg_cell_g r1.1 r1.2.1.2 (fun j j0 j1 => f44 j ?_) r4)
    omega
/-- out of what keep says, and what the act leaves as it is -/
theorem jI_act2 {μ μk μ1 ν : jm_M} {t' : Int → Int} (h : jI μ) (hk : jkk μ μk (μ 95)) (fa : ∀ z, (z < 7 ∨ (23 < z ∧ z < 45) ∨ 57 < z) → μ1 z = μk z) (hm : jkm μ1 ν) (hT : ∀ j, 0 ≤ j → j < 62 → ν 95 j = t' j) (hmat : jh_mats μ1 7) (hrel : jh_rel μ1 7 t') (hw : jt_wf t') (hcf : jt_cf t' 999) (hs : jt_same (μ 95) t') : jI ν := by
  obtain ⟨k1, k2, k3, k4, k5⟩ := hk
  have e43 := fa 43 (by omega)
  have e44 := fa 44 (by omega)
  exact jI_act h (fun z q => by rw [fa z (by omega), k1 z (by omega) (by omega)]) (by rw [e43]; exact ⟨k2, k3⟩) (fun j q => by rw [e44]; exact k4 j q) (by rw [e44]; exact k5) hm hT hmat hrel hw hcf hs
theorem jH_kk {μ μk : jm_M} {t : Int → Int} (h : jH μ t) {u : Int → Int} (hk : jkk μ μk u) : jH μk t := jH_congr (fun z a b => hk.1 z (by omega) (by omega)) h
set_option maxRecDepth 10000 in
theorem cl_empty {X : jm_X} {d : Nat} {Q : jv_P} {μ : jm_M} {z : Int} (hz : jz_mat z) (k : ∀ μ2 : jm_M, (∀ u, u ≠ z + 1 → μ2 u = μ u) → (∀ j, 0 ≤ j → j < 6 → μ2 (z + 1) j = 0) → Q [] μ2) : cV X (d + 1) 54 [.inr (.inr z)] μ Q := by
  refine jv_enter (d := d + 0) jm_p_X5_empty [some (.inr (.inr z)), none] rfl rfl rfl (Nat.le_of_ble_eq_true rfl) rfl rfl ?_
  refine jv_iconst rfl rfl ?_
  refine jv_istore_nK (L2 := [some (.inr (.inr z)), some (.inl 0)]) rfl rfl rfl ?_
  refine jv_iload_n rfl rfl rfl ?_
  refine jv_bipush rfl rfl ?_
  refine jv_icmp_geF rfl rfl (by decide) ?_
  refine jv_aload_n rfl rfl rfl (by have := hz.2.2; omega) ?_
  refine jv_getr (w := (z + 1)) rfl rfl hz.1 ⟨hz.2.2.1, rfl⟩ rfl rfl ?_
  refine jv_iload_n rfl rfl rfl ?_
  refine jv_iconst rfl rfl ?_
  refine jv_iastore rfl rfl hz.2.1 (by have := hz.2.2; omega) ⟨by omega, by omega⟩ (fun μ9 eμ9 => ?_)
  refine jv_iincK (L2 := [some (.inr (.inr z)), some (.inl 1)]) rfl rfl rfl (by decide) rfl ?_
  refine jv_goto rfl rfl ?_
  refine jv_iload_n rfl rfl rfl ?_
  refine jv_bipush rfl rfl ?_
  refine jv_icmp_geF rfl rfl (by decide) ?_
  refine jv_aload_n rfl rfl rfl (by have := hz.2.2; omega) ?_
  refine jv_getr (w := (z + 1)) rfl rfl hz.1 ⟨hz.2.2.1, rfl⟩ rfl rfl ?_
  refine jv_iload_n rfl rfl rfl ?_
  refine jv_iconst rfl rfl ?_
  refine jv_iastore rfl rfl hz.2.1 (by have := hz.2.2; omega) ⟨by omega, by omega⟩ (fun μ9_1 eμ9_1 => ?_)
  refine jv_iincK (L2 := [some (.inr (.inr z)), some (.inl 2)]) rfl rfl rfl (by decide) rfl ?_
  refine jv_goto rfl rfl ?_
  refine jv_iload_n rfl rfl rfl ?_
  refine jv_bipush rfl rfl ?_
  refine jv_icmp_geF rfl rfl (by decide) ?_
  refine jv_aload_n rfl rfl rfl (by have := hz.2.2; omega) ?_
  refine jv_getr (w := (z + 1)) rfl rfl hz.1 ⟨hz.2.2.1, rfl⟩ rfl rfl ?_
  refine jv_iload_n rfl rfl rfl ?_
  refine jv_iconst rfl rfl ?_
  refine jv_iastore rfl rfl hz.2.1 (by have := hz.2.2; omega) ⟨by omega, by omega⟩ (fun μ9_2 eμ9_2 => ?_)
  refine jv_iincK (L2 := [some (.inr (.inr z)), some (.inl 3)]) rfl rfl rfl (by decide) rfl ?_
  refine jv_goto rfl rfl ?_
  refine jv_iload_n rfl rfl rfl ?_
  refine jv_bipush rfl rfl ?_
  refine jv_icmp_geF rfl rfl (by decide) ?_
  refine jv_aload_n rfl rfl rfl (by have := hz.2.2; omega) ?_
  refine jv_getr (w := (z + 1)) rfl rfl hz.1 ⟨hz.2.2.1, rfl⟩ rfl rfl ?_
  refine jv_iload_n rfl rfl rfl ?_
  refine jv_iconst rfl rfl ?_
  refine jv_iastore rfl rfl hz.2.1 (by have := hz.2.2; omega) ⟨by omega, by omega⟩ (fun μ9_3 eμ9_3 => ?_)
  refine jv_iincK (L2 := [some (.inr (.inr z)), some (.inl 4)]) rfl rfl rfl (by decide) rfl ?_
  refine jv_goto rfl rfl ?_
  refine jv_iload_n rfl rfl rfl ?_
  refine jv_bipush rfl rfl ?_
  refine jv_icmp_geF rfl rfl (by decide) ?_
  refine jv_aload_n rfl rfl rfl (by have := hz.2.2; omega) ?_
  refine jv_getr (w := (z + 1)) rfl rfl hz.1 ⟨hz.2.2.1, rfl⟩ rfl rfl ?_
  refine jv_iload_n rfl rfl rfl ?_
  refine jv_iconst rfl rfl ?_
  refine jv_iastore rfl rfl hz.2.1 (by have := hz.2.2; omega) ⟨by omega, by omega⟩ (fun μ9_4 eμ9_4 => ?_)
  refine jv_iincK (L2 := [some (.inr (.inr z)), some (.inl 5)]) rfl rfl rfl (by decide) rfl ?_
  refine jv_goto rfl rfl ?_
  refine jv_iload_n rfl rfl rfl ?_
  refine jv_bipush rfl rfl ?_
  refine jv_icmp_geF rfl rfl (by decide) ?_
  refine jv_aload_n rfl rfl rfl (by have := hz.2.2; omega) ?_
  refine jv_getr (w := (z + 1)) rfl rfl hz.1 ⟨hz.2.2.1, rfl⟩ rfl rfl ?_
  refine jv_iload_n rfl rfl rfl ?_
  refine jv_iconst rfl rfl ?_
  refine jv_iastore rfl rfl hz.2.1 (by have := hz.2.2; omega) ⟨by omega, by omega⟩ (fun μ9_5 eμ9_5 => ?_)
  refine jv_iincK (L2 := [some (.inr (.inr z)), some (.inl 6)]) rfl rfl rfl (by decide) rfl ?_
  refine jv_goto rfl rfl ?_
  refine jv_iload_n rfl rfl rfl ?_
  refine jv_bipush rfl rfl ?_
  refine jv_icmp_geT rfl rfl (by decide) ?_
  refine jv_return rfl ?_
  have a0 : ∀ u, u ≠ z + 1 → μ9 u = μ u := fun u q => by rw [eμ9, jm_uc_ne q]
  have a1 : ∀ u, u ≠ z + 1 → μ9_1 u = μ u := fun u q => by rw [eμ9_1, jm_uc_ne q, a0 u q]
  have a2 : ∀ u, u ≠ z + 1 → μ9_2 u = μ u := fun u q => by rw [eμ9_2, jm_uc_ne q, a1 u q]
  have a3 : ∀ u, u ≠ z + 1 → μ9_3 u = μ u := fun u q => by rw [eμ9_3, jm_uc_ne q, a2 u q]
  have a4 : ∀ u, u ≠ z + 1 → μ9_4 u = μ u := fun u q => by rw [eμ9_4, jm_uc_ne q, a3 u q]
  have a5 : ∀ u, u ≠ z + 1 → μ9_5 u = μ u := fun u q => by rw [eμ9_5, jm_uc_ne q, a4 u q]
  have b : μ9_5 (z + 1) = jm_u1 (jm_u1 (jm_u1 (jm_u1 (jm_u1 (jm_u1 (μ (z + 1)) 0 0) 1 0) 2 0) 3 0) 4 0) 5 0 := by rw [eμ9_5, jm_uc_self, eμ9_4, jm_uc_self, eμ9_3, jm_uc_self, eμ9_2, jm_uc_self, eμ9_1, jm_uc_self, eμ9, jm_uc_self]
  refine k _ a5 (fun j j0 j1 => ?_)
  rw [b]
  rcases (show j = 0 ∨ j = 1 ∨ j = 2 ∨ j = 3 ∨ j = 4 ∨ j = 5 by omega) with q | q | q | q | q | q <;> rw [q] <;> rfl
theorem jrel_beat {μ μ2 : jm_M} {t : Int → Int} {m : Int} (hw : jt_wf t) (hmat : jh_mats μ 7) (hr : jh_rel μ 7 t) (hm : 0 ≤ m ∧ m < t 0) (f : ∀ u, u ≠ μ 8 m + 1 → μ2 u = μ u) (e : ∀ j, 0 ≤ j → j < 6 → μ2 (μ 8 m + 1) j = 0) : jh_rel μ2 7 (jt_beat t m) := by
  have w0 := hw.1
  have w1 := hw.2.1
  have dm : ∀ m, 0 ≤ m → m < 4 → μ 8 m = 7 + 3 ∨ μ 8 m = 7 + 5 ∨ μ 8 m = 7 + 7 ∨ μ 8 m = 7 + 9 := hmat.1
  have d0 := dm m hm.1 (by omega)
  have inj : ∀ a, 0 ≤ a → a < 4 → μ 8 a = μ 8 m → a = m := fun a a0 a1 q => hmat.2.1 a m a0 a1 hm.1 (by omega) q
  have o := fun j h => jt_beat_out (T := t) (m := m) (j := j) (by omega) h
  obtain ⟨⟨r0, r1, r2, r3⟩, rm, rz, rc⟩ := hr
  have rm' : ∀ m, 0 ≤ m → m < t 0 → μ (μ 8 m) 0 = t (4 + m) ∧ ∀ k, 0 ≤ k → k < 6 → μ (μ 8 m + 1) k = t (8 + 6 * m + k) := rm
  have rz' : ∀ m, t 0 ≤ m → m < 4 → ∀ k, 0 ≤ k → k < 6 → μ (μ 8 m + 1) k = 0 := rz
  have e8 : μ2 8 = μ 8 := f 8 (by omega)
  have e7 : μ2 7 = μ 7 := f 7 (by omega)
  refine ⟨⟨by rw [e7, o 2 (by omega)]; exact r0, by rw [e7, o 3 (by omega)]; exact r1, by rw [e7, o 0 (by omega)]; exact r2, by rw [e7, o 1 (by omega)]; exact r3⟩, fun a a0 a1 => ?_, fun a a0 a1 k k0 k1 => ?_, fun c c0 c1 => ?_⟩
  · rw [o 0 (by omega)] at a1
    show μ2 (μ2 8 a) 0 = _ ∧ ∀ k, 0 ≤ k → k < 6 → μ2 (μ2 8 a + 1) k = _
    have da := dm a a0 (by omega)
    rw [e8, f (μ 8 a) (by omega), o (4 + a) (by omega)]
    refine ⟨(rm' a a0 a1).1, fun k k0 k1 => ?_⟩
    unfold jt_beat jz_zero
    by_cases q : a = m
    · rw [q, e k k0 k1, if_pos (by omega)]
    · have ne : ¬ μ 8 a = μ 8 m := fun z => q (inj a a0 (by omega) z)
      rw [f (μ 8 a + 1) (by omega), if_neg (by omega)]
      exact (rm' a a0 a1).2 k k0 k1
  · rw [o 0 (by omega)] at a0
    show μ2 (μ2 8 a + 1) k = 0
    have da := dm a (by omega) a1
    have ne : ¬ μ 8 a = μ 8 m := fun z => by
      have := inj a (by omega) a1 z
      omega
    rw [e8, f (μ 8 a + 1) (by omega)]
    exact rz' a a0 a1 k k0 k1
  · rw [o 1 (by omega)] at c1
    rw [f (7 + 11 + c) (by omega), o (32 + c) (by omega), o (38 + c) (by omega), o (44 + c) (by omega), o (50 + c) (by omega), o (56 + c) (by omega)]
    exact rc c c0 c1
theorem jt_same_beat {t : Int → Int} {m : Int} (hm : 0 ≤ m ∧ m < 4) (h1 : t 1 ≤ 6) : jt_same t (jt_beat t m) := by
  have o := fun j h => jt_beat_out (T := t) (m := m) (j := j) hm h
  refine ⟨o 0 (by omega), o 1 (by omega), o 2 (by omega), o 3 (by omega), fun c c0 c1 => ?_⟩
  rw [o (32 + c) (by omega), o (44 + c) (by omega), o (50 + c) (by omega)]
  exact ⟨rfl, rfl, rfl⟩
theorem mo_beats0 {X : jm_X} {d : Nat} {Q : jv_P} {μ : jm_M} {m : Int} {t : Int → Int} (hU : jU μ t) (hm : 0 ≤ m ∧ m < 4) (hw : jt_wf t) (k : ∀ μ2, ja0 μ μ2 (jt_beat t m) → Q [.inl (jt_lies t m)] μ2) : cV X (d + 2) 170 [.inr (.inr 94), .inl 0, .inl m] μ Q := by
  have hs : ∀ k, 0 ≤ k → k < 62 → t k = (fun k => μ 95 (0 + k)) k := fun k a b => by
    show t k = μ 95 (0 + k)
    rw [Int.zero_add, hU k a b]
  refine mo_beatsAt (by omega) hm (jt_wf_congr hs hw) (fun μ2 e => ?_)
  rw [← jt_lies_congr hs hm.1 hm.2]
  refine k _ ⟨fun z q => by rw [e]; exact jm_uc_ne q, fun j q => ?_, fun j j0 j1 => ?_⟩
  · rw [e, jm_uc_self]
    unfold jz_zero
    rw [if_neg (by omega)]
  · rw [e, jm_uc_self]
    unfold jt_beat jz_zero
    by_cases h : 8 + 6 * m ≤ j ∧ j < 8 + 6 * m + 6
    · rw [if_pos h, if_pos (by omega)]
    · rw [if_neg h, if_neg (by omega)]
      exact hU j j0 j1
theorem mo_comes0 {X : jm_X} {d : Nat} {Q : jv_P} {μ : jm_M} {c : Int} {t : Int → Int} (hU : jU μ t) (hc : 0 ≤ c ∧ c < 6) (hw : jt_wf t) (hcf : jt_cf t 100000) (k : ∀ μ2, ja0 μ μ2 (jt_come t c) → Q [.inl (jt_y t c (t 0).toNat)] μ2) : cV X (d + 3) 169 [.inr (.inr 94), .inl 0, .inl c] μ Q := by
  have hs : ∀ k, 0 ≤ k → k < 62 → t k = (fun k => μ 95 (0 + k)) k := fun k a b => by
    show t k = μ 95 (0 + k)
    rw [Int.zero_add, hU k a b]
  refine mo_comesAt (by omega) hc (jt_wf_congr hs hw) (jt_cf_congr hs hcf) ?_
  have e0 : μ 95 (0 + 0) = t 0 := (hs 0 (by omega) (by omega)).symm
  rw [e0, ← jt_y_congr hs hc.1 hc.2 (t 0).toNat (by have := hw.1; omega)]
  refine k _ ⟨fun z q => jm_uc_ne q, fun j q => ?_, fun j j0 j1 => ?_⟩
  · rw [jm_uc_self]
    unfold jt_in
    rw [if_neg (by omega)]
  · have q := jt_in_at (f := μ 95) (u := jt_come (fun k => μ 95 (0 + k)) c) (base := 0) j0 j1
    rw [Int.zero_add] at q
    rw [jm_uc_self, q, ← jt_come_congr hs hw.1.2 hc.1 hc.2 j0 j1]
set_option maxRecDepth 10000 in
set_option maxHeartbeats 1000000 in
theorem pr_beat {X : jm_X} {m : Int} (r_m : jm_r m) : jp X 96 173 [.inl m] := by
  intro μ hI
  obtain ⟨⟨hit, hlan⟩, ⟨ht0, ht1, ht2⟩, ⟨hr0, hr1, hr2⟩, ⟨hst, hfa⟩, htown, hidle, himg, hpast⟩ := id hI
  obtain ⟨hwf, hcf, hkd, hmat, hrel, hh01, hhot, hnc⟩ := id htown
  obtain ⟨⟨r0, r1, r2, r3⟩, rm, rz, rc⟩ := id hrel
  obtain ⟨w0, w1, w2, w3, w4, w6, w7, w8⟩ := id hwf
  have hHμ := jH_of hI
  obtain ⟨hp0, hp1, hp2, -⟩ := id hpast
  have hcf5 : jt_cf (μ 95) 100000 := fun c a b => by have q := hcf c a b; omega
  refine jv_enter (d := 199) jm_p_X9_beat [some (.inr (.inr 0)), some (.inl m), none] rfl rfl rfl (Nat.le_of_ble_eq_true rfl) rfl rfl ?_
  refine jv_aload_n rfl rfl rfl (by decide) ?_
  refine jv_iload_n rfl rfl rfl ?_
  refine jv_callV1 rfl rfl rfl rfl ⟨by decide, rfl⟩ (Nat.le_of_ble_eq_true rfl) (cl_noMat (fun b2 => ?_) (fun b2 => ?_))
  · show jV _ _ jm_p_X9_beat _ 3 [some (.inr (.inr 0)), some (.inl m), none] [.inl 1] μ
    refine jv_if_eqF rfl rfl (by decide) ?_
    refine jv_ldc rfl rfl ?_
    refine jv_ireturn rfl (Or.inl rfl) ?_
    refine ⟨_, rfl, ?_⟩
    skip
    refine jv_enter (d := 199) jm_p_X10_beat [some (.inr (.inr 94)), some (.inl m)] rfl rfl rfl (Nat.le_of_ble_eq_true rfl) rfl rfl ?_
    refine jv_aload_n rfl rfl rfl (by decide) ?_
    refine jv_iload_n rfl rfl rfl ?_
    refine jv_callV1 rfl rfl rfl rfl ⟨by decide, rfl⟩ (Nat.le_of_ble_eq_true rfl) (mo_isMat (by omega) (fun b2 => ?_) (fun b2 => ?_))
    · first
      | (exfalso; omega)
      | skip
        show jV _ _ jm_p_X10_beat _ 3 [some (.inr (.inr 94)), some (.inl m)] [.inl 1] μ
        refine jv_if_neT rfl rfl (by decide) ?_
        refine jv_aload_n rfl rfl rfl (by decide) ?_
        refine jv_callV0 rfl rfl rfl rfl ⟨by decide, rfl⟩ (Nat.le_of_ble_eq_true rfl) (mo_keepPast (by omega) (fun ν7 kν7 tν7 => ?_))
        show jV _ _ jm_p_X10_beat _ 8 [some (.inr (.inr 94)), some (.inl m)] [] ν7
        have hUν7 : jU ν7 (μ 95) := fun j j0 j1 => by rw [tν7 j j0 j1, g95]
        have v0ν7 : ν7 95 0 = μ 95 0 := hUν7 0 (by decide) (by decide)
        have v1ν7 : ν7 95 1 = μ 95 1 := hUν7 1 (by decide) (by decide)
        refine jv_aload_n rfl rfl rfl (by decide) ?_
        refine jv_iconst rfl rfl ?_
        refine jv_iload_n rfl rfl rfl ?_
        refine jv_callV2 rfl rfl rfl rfl ⟨by decide, rfl⟩ (Nat.le_of_ble_eq_true rfl) (mo_beats0 hUν7 (by omega) hwf (fun ν11 aν11 => ?_))
        show jV _ _ jm_p_X10_beat _ 12 [some (.inr (.inr 94)), some (.inl m)] [.inl (jt_lies (μ 95) m)] ν11
        refine jv_ireturn rfl (Or.inl rfl) ?_
        exfalso; omega
    · first
      | (exfalso; omega)
      | skip
        show jV _ _ jm_p_X10_beat _ 3 [some (.inr (.inr 94)), some (.inl m)] [.inl 0] μ
        refine jv_if_neF rfl rfl (by decide) ?_
        refine jv_ldc rfl rfl ?_
        refine jv_ireturn rfl (Or.inl rfl) ?_
        exact ⟨jv_one (by omega), hI⟩
  · show jV _ _ jm_p_X9_beat _ 3 [some (.inr (.inr 0)), some (.inl m), none] [.inl 0] μ
    refine jv_if_eqT rfl rfl (by decide) ?_
    refine jv_aload_n rfl rfl rfl (by decide) ?_
    refine jv_getr (w := 43) rfl rfl rfl ⟨by decide, rfl⟩ rfl rfl ?_
    refine jv_aload_n rfl rfl rfl (by decide) ?_
    refine jv_getr (w := 7) rfl rfl rfl ⟨by decide, rfl⟩ rfl rfl ?_
    refine jv_callV1 rfl rfl rfl rfl ⟨by decide, rfl⟩ (Nat.le_of_ble_eq_true rfl) (cl_keep hHμ hp2 (by omega) (fun μ10 kμ10 => ?_))
    show jV _ _ jm_p_X9_beat _ 11 [some (.inr (.inr 0)), some (.inl m), none] [] μ10
    have hHμ10 := jH_kk hHμ kμ10
    have n3μ10 := jH_3 hHμ10
    have n2μ10 := jH_2 hHμ10
    refine jv_aload_n rfl rfl rfl (by decide) ?_
    refine jv_getr (w := 7) rfl rfl rfl ⟨by decide, rfl⟩ rfl rfl ?_
    refine jv_getr (w := 8) rfl rfl rfl ⟨by decide, rfl⟩ rfl rfl ?_
    refine jv_iload_n rfl rfl rfl ?_
    refine jv_aaload rfl rfl rfl ⟨by decide, by decide, by decide⟩ ⟨by omega, by omega⟩ ?_
    have rmm : ∀ k, 0 ≤ k → k < 6 → μ10 (μ10 8 m + 1) k = μ 95 (8 + 6 * m + k) := (hHμ10.2.2.2.2.1 m (by omega) (by omega)).2
    refine jv_callV0 rfl rfl rfl (jz_mat7 hHμ10.2.2.1 (m := m) (by omega) (by omega)).1 ⟨(jz_mat7 hHμ10.2.2.1 (m := m) (by omega) (by omega)).2.2.1, rfl⟩ (Nat.le_of_ble_eq_true rfl) (cl_lying (jz_mat7 hHμ10.2.2.1 (m := m) (by omega) (by omega)) (fun j j0 j1 => by rw [rmm j j0 j1]; exact w6 _ (by omega) (by omega)) ?_)
    rw [rmm 0 (by decide) (by decide), rmm 1 (by decide) (by decide), rmm 2 (by decide) (by decide), rmm 3 (by decide) (by decide), rmm 4 (by decide) (by decide), rmm 5 (by decide) (by decide), Int.add_zero]
    show jV _ _ jm_p_X9_beat _ 17 [some (.inr (.inr 0)), some (.inl m), none] [.inl (jt_lies (μ 95) m)] μ10
    refine jv_istore_n (fun x => [some (.inr (.inr 0)), some (.inl m), some (.inl x)]) rfl rfl (fun _ => rfl) (fun x2_17 ex2_17 => ?_)
    refine jv_aload_n rfl rfl rfl (by decide) ?_
    refine jv_getr (w := 7) rfl rfl rfl ⟨by decide, rfl⟩ rfl rfl ?_
    refine jv_getr (w := 8) rfl rfl rfl ⟨by decide, rfl⟩ rfl rfl ?_
    refine jv_iload_n rfl rfl rfl ?_
    refine jv_aaload rfl rfl rfl ⟨by decide, by decide, by decide⟩ ⟨by omega, by omega⟩ ?_
    refine jv_callV0 rfl rfl rfl (jz_mat7 hHμ10.2.2.1 (m := m) (by omega) (by omega)).1 ⟨(jz_mat7 hHμ10.2.2.1 (m := m) (by omega) (by omega)).2.2.1, rfl⟩ (Nat.le_of_ble_eq_true rfl) (cl_empty (jz_mat7 hHμ10.2.2.1 (m := m) (by omega) (by omega)) (fun μ23 fμ23 zμ23 => ?_))
    show jV _ _ jm_p_X9_beat _ 24 [some (.inr (.inr 0)), some (.inl m), some (.inl x2_17)] [] μ23
    refine jv_iload_n rfl rfl rfl ?_
    refine jv_ireturn rfl (Or.inl rfl) ?_
    refine ⟨_, rfl, ?_⟩
    have d0 : μ10 8 m = 7 + 3 ∨ μ10 8 m = 7 + 5 ∨ μ10 8 m = 7 + 7 ∨ μ10 8 m = 7 + 9 := hHμ10.2.2.1.1 m (by omega) (by omega)
    have ga : ∀ z, (z < 11 ∨ 17 < z) → μ23 z = μ10 z := fun z q => fμ23 z (by omega)
    have g95 : μ23 95 = μ 95 := by rw [ga 95 (by omega), kμ10.1 95 (by decide) (by decide)]
    have g00 : μ23 95 0 = μ 95 0 := by rw [g95]
    have g94 : μ23 94 = μ 94 := by rw [ga 94 (by omega), kμ10.1 94 (by decide) (by decide)]
    have g942 : μ23 94 2 = μ 94 2 := by rw [g94]
    refine jv_enter (d := 199) jm_p_X10_beat [some (.inr (.inr 94)), some (.inl m)] rfl rfl rfl (Nat.le_of_ble_eq_true rfl) rfl rfl ?_
    refine jv_aload_n rfl rfl rfl (by decide) ?_
    refine jv_iload_n rfl rfl rfl ?_
    refine jv_callV1 rfl rfl rfl rfl ⟨by decide, rfl⟩ (Nat.le_of_ble_eq_true rfl) (mo_isMat (by omega) (fun b2 => ?_) (fun b2 => ?_))
    · first
      | (exfalso; omega)
      | skip
        show jV _ _ jm_p_X10_beat _ 3 [some (.inr (.inr 94)), some (.inl m)] [.inl 1] μ23
        refine jv_if_neT rfl rfl (by decide) ?_
        refine jv_aload_n rfl rfl rfl (by decide) ?_
        refine jv_callV0 rfl rfl rfl rfl ⟨by decide, rfl⟩ (Nat.le_of_ble_eq_true rfl) (mo_keepPast (by omega) (fun ν7 kν7 tν7 => ?_))
        show jV _ _ jm_p_X10_beat _ 8 [some (.inr (.inr 94)), some (.inl m)] [] ν7
        have hUν7 : jU ν7 (μ 95) := fun j j0 j1 => by rw [tν7 j j0 j1, g95]
        have v0ν7 : ν7 95 0 = μ 95 0 := hUν7 0 (by decide) (by decide)
        have v1ν7 : ν7 95 1 = μ 95 1 := hUν7 1 (by decide) (by decide)
        refine jv_aload_n rfl rfl rfl (by decide) ?_
        refine jv_iconst rfl rfl ?_
        refine jv_iload_n rfl rfl rfl ?_
        refine jv_callV2 rfl rfl rfl rfl ⟨by decide, rfl⟩ (Nat.le_of_ble_eq_true rfl) (mo_beats0 hUν7 (by omega) hwf (fun ν11 aν11 => ?_))
        show jV _ _ jm_p_X10_beat _ 12 [some (.inr (.inr 94)), some (.inl m)] [.inl (jt_lies (μ 95) m)] ν11
        refine jv_ireturn rfl (Or.inl rfl) ?_
        have hrb := jrel_beat hwf hHμ10.2.2.1 hHμ10.2.2.2 (by omega) fμ23 zμ23
        have hmb : jh_mats μ23 7 := jg_mats (ga 8 (by omega)) (ga 9 (by omega)) hHμ10.2.2.1
        exact ⟨jv_one (by omega), jI_act2 hI kμ10 (fun z q => ga z (by omega)) (jkm_act kν7 (by omega) aν11) aν11.2.2 hmb hrb (jt_beat_wf (by omega) hwf) (jt_cf_beat (by omega) hcf) (jt_same_beat (by omega) w1.2)⟩
    · first
      | (exfalso; omega)
      | skip
        show jV _ _ jm_p_X10_beat _ 3 [some (.inr (.inr 94)), some (.inl m)] [.inl 0] μ23
        refine jv_if_neF rfl rfl (by decide) ?_
        refine jv_ldc rfl rfl ?_
        refine jv_ireturn rfl (Or.inl rfl) ?_
        exfalso; omega
