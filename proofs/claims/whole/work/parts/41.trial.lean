/-! what a trial leaves as it was; sets as sums of bits; the walk by the towns' own numbers -/
theorem jg_town2 {μ μ' : jm_M} (e : ∀ z, 7 ≤ z → z ≤ 23 → μ' z = μ z) (e95 : ∀ j, 0 ≤ j → j < 62 → μ' 95 j = μ 95 j) (e1 : μ' 94 1 = μ 94 1) (h : ji_town μ) : ji_town μ' := by
  obtain ⟨a, b, c, d, f, g, i, j⟩ := h
  have hs : ∀ k, 0 ≤ k → k < 62 → μ 95 k = μ' 95 k := fun k p q => (e95 k p q).symm
  exact ⟨jt_wf_congr hs a, jt_cf_congr hs b, jt_kd_congr hs a.2.1.2 c, jg_mats (e 8 (by omega) (by omega)) (e 9 (by omega) (by omega)) d, jg_rel d e e95 a.1 a.2.1 f, by rw [e1]; exact g, by rw [e1, e95 0 (by omega) (by omega)]; exact i, by rw [e95 0 (by omega) (by omega), e95 1 (by omega) (by omega)]; exact j⟩
theorem jt_same_congr {t t' p p' : Int → Int} (ht : ∀ k, 0 ≤ k → k < 62 → t k = t' k) (hp : ∀ k, 0 ≤ k → k < 62 → p k = p' k) (h1 : t 1 ≤ 6) (h : jt_same t p) : jt_same t' p' := by
  obtain ⟨a, b, c, d, e⟩ := h
  refine ⟨by rw [← ht 0 (by omega) (by omega), ← hp 0 (by omega) (by omega)]; exact a, by rw [← ht 1 (by omega) (by omega), ← hp 1 (by omega) (by omega)]; exact b, by rw [← ht 2 (by omega) (by omega), ← hp 2 (by omega) (by omega)]; exact c, by rw [← ht 3 (by omega) (by omega), ← hp 3 (by omega) (by omega)]; exact d, fun x x0 x1 => ?_⟩
  rw [← ht 1 (by omega) (by omega)] at x1
  rw [← ht (32 + x) (by omega) (by omega), ← hp (32 + x) (by omega) (by omega), ← ht (44 + x) (by omega) (by omega), ← hp (44 + x) (by omega) (by omega), ← ht (50 + x) (by omega) (by omega), ← hp (50 + x) (by omega) (by omega)]
  exact e x x0 x1
theorem jg_cell_congr {g p p' : Int → Int} {s : Int} (hp : ∀ k, 0 ≤ k → k < 62 → p k = p' k) (h0 : p 0 ≤ 4) (h1 : p 1 ≤ 6) (h : jg_cell g s p) : jg_cell g s p' := by
  obtain ⟨a, b, c⟩ := h
  refine ⟨fun m m0 m1 => ?_, fun m m0 m1 k k0 k1 => ?_, fun x x0 x1 => ?_⟩
  · rw [← hp 0 (by omega) (by omega)] at m1
    refine ⟨by rw [← hp (4 + m) (by omega) (by omega)]; exact (a m m0 m1).1, fun k k0 k1 => ?_⟩
    rw [← hp (8 + 6 * m + k) (by omega) (by omega)]
    exact (a m m0 m1).2 k k0 k1
  · rw [← hp 0 (by omega) (by omega)] at m0
    exact b m m0 m1 k k0 k1
  · rw [← hp 1 (by omega) (by omega)] at x1
    rw [← hp (38 + x) (by omega) (by omega), ← hp (56 + x) (by omega) (by omega)]
    exact c x x0 x1
theorem jg_past2 {μ μ' : jm_M} (w0 : μ 95 1 ≤ 6) (e2 : μ' 94 2 = μ 94 2) (e43 : μ' 43 = μ 43) (e44 : μ' 44 = μ 44) (e95 : ∀ j, 0 ≤ j → j < 1550 → μ' 95 j = μ 95 j) (h : ji_past μ) : ji_past μ' := by
  obtain ⟨a, b, c, q⟩ := h
  refine ⟨by rw [e2]; exact a, by rw [e43, e2]; exact b, by rw [e43]; exact c, fun k k0 k1 => ?_⟩
  rw [e2] at k1
  obtain ⟨q1, q2, q3, q4⟩ := q k k0 k1
  have hs : ∀ j, 0 ≤ j → j < 62 → (fun j => μ 95 (62 + 62 * k + j)) j = (fun j => μ' 95 (62 + 62 * k + j)) j := fun j p r => (e95 _ (by omega) (by omega)).symm
  refine ⟨jt_wf_congr hs q1, jt_cf_congr hs q2, jt_same_congr (fun j p r => (e95 j p (by omega)).symm) hs w0 q3, ?_⟩
  rw [e43, e44, e2]
  exact jg_cell_congr hs q1.1.2 q1.2.1.2 q4
theorem jI_tried {μ μ' : jm_M} (h : jI μ) (e : ∀ z, (z ≠ 0 ∧ z ≠ 94 ∧ z ≠ 95 ∧ (z < 45 ∨ 58 ≤ z) ∧ z < 102) → μ' z = μ z) (e95 : ∀ j, j < 1674 → μ' 95 j = μ 95 j) (e1 : μ' 94 1 = μ 94 1) (e2 : μ' 94 2 = μ 94 2) (e8 : μ' 94 8 = μ 94 8) (e12 : μ' 94 12 = μ 94 12) (es : μ' 0 11 = μ' 94 10) (ef : μ' 0 10 = μ' 94 9) : jI μ' := by
  obtain ⟨a, b, c, d, f, g, ⟨i0, i1⟩, j⟩ := h
  exact ⟨jg_rows (e _ (by decide)) (e _ (by decide)) (e _ (by decide)) (e _ (by decide)) (e _ (by decide)) (e _ (by decide)) a, jg_tape (by rw [e 5 (by decide)]) (e _ (by decide)) (e _ (by decide)) e8 b, jg_trace (e _ (by decide)) (e _ (by decide)) (e _ (by decide)) e12 c, ⟨es, ef⟩, jg_town2 (fun z z0 z1 => e z (by omega)) (fun k k0 k1 => e95 k (by omega)) e1 f,
    jg_idle (e _ (by decide)) (e _ (by decide)) (e _ (by decide)) (e _ (by decide)) (e _ (by decide)) (e _ (by decide)) (e _ (by decide)) g,
    ⟨jg_img e1 (Or.inl rfl) g (by rw [e 42 (by decide)]) (by rw [e 96 (by decide)]) (fun z z0 z1 => e z (by omega)) (fun k k0 k1 => e95 _ (by omega)) i0, jg_img e1 (Or.inr rfl) g (by rw [e 42 (by decide)]) (by rw [e 96 (by decide)]) (fun z z0 z1 => e z (by omega)) (fun k k0 k1 => e95 _ (by omega)) i1⟩,
    jg_past2 f.1.2.1.2 e2 (e _ (by decide)) (e _ (by decide)) (fun k k0 k1 => e95 _ (by omega)) j⟩
/-- only what a trial is made of has changed -/
theorem jI_trial {μ μ' : jm_M} (h : jI μ) (e : ∀ z, (z ≠ 95 ∧ (z < 45 ∨ 58 ≤ z) ∧ z < 102) → μ' z = μ z) (e95 : ∀ j, j < 1674 → μ' 95 j = μ 95 j) : jI μ' := by
  have d := h.2.2.2.1
  have e0 := e 0 (by decide)
  have e94 := e 94 (by decide)
  exact jI_tried h (fun z q => e z (by omega)) e95 (by rw [e94]) (by rw [e94]) (by rw [e94]) (by rw [e94]) (by rw [e0, e94]; exact d.1) (by rw [e0, e94]; exact d.2)
theorem jm_or_0 {a : Int} (h : jm_r a) : jm_or a 0 = a := by
  have e : jm_or a 0 = (Int32.ofInt a).toInt := by
    unfold jm_or
    congr 1
    exact Int32.or_zero
  rw [e, jm_ti h]
/-- s is the sum of the bits at a, a + 1 .. for which p holds -/
def jb_is (p : Int → Prop) (a : Int) : Nat → Int → Prop
  | 0, s => s = 0
  | k + 1, s => ∃ r, jb_is p a k r ∧ ((p (a + k) ∧ s = jm_or r (jm_shl 1 (a + k))) ∨ (¬ p (a + k) ∧ s = r))
theorem jb_is_r {p : Int → Prop} {a : Int} : ∀ (k : Nat) (s : Int), jb_is p a k s → jm_r s
  | 0, s, h => by
    have e : s = 0 := h
    rw [e]
    exact jm_r0
  | k + 1, s, h => by
    obtain ⟨r, h1, ⟨-, e⟩ | ⟨-, e⟩⟩ := h
    · rw [e]
      exact jm_rI _
    · rw [e]
      exact jb_is_r k r h1
theorem jb_is_one {p q : Int → Prop} {a : Int} : ∀ (k : Nat) (s s' : Int), (∀ c, a ≤ c → c < a + k → (p c ↔ q c)) → jb_is p a k s → jb_is q a k s' → s = s'
  | 0, s, s', _, h, h' => by
    have e : s = 0 := h
    have e' : s' = 0 := h'
    rw [e, e']
  | k + 1, s, s', hp, h, h' => by
    obtain ⟨r, h1, h2⟩ := h
    obtain ⟨r', h1', h2'⟩ := h'
    have e := jb_is_one k r r' (fun c c0 c1 => hp c c0 (by omega)) h1 h1'
    have hk := hp (a + k) (by omega) (by omega)
    rcases h2 with ⟨a1, a2⟩ | ⟨a1, a2⟩ <;> rcases h2' with ⟨b1, b2⟩ | ⟨b1, b2⟩
    · rw [a2, b2, e]
    · exact absurd (hk.1 a1) b1
    · exact absurd (hk.2 b1) a1
    · rw [a2, b2, e]
/-- which mat lies at each place: each at one -/
def jl (la : Int → Int) (n : Int) : Prop := (∀ p, 0 ≤ p → p < n → 0 ≤ la p ∧ la p < n) ∧ ∀ p q, 0 ≤ p → p < n → 0 ≤ q → q < n → la p = la q → p = q
theorem jl_id (n : Int) : jl (fun p => p) n := ⟨fun p p0 p1 => ⟨p0, p1⟩, fun p q _ _ _ _ e => e⟩
theorem jg_la {t : Int → Int} {c n0 : Int} {cy la ly lf : Int → Int} (hla : jl la n0) (hcy : ∀ p, 0 ≤ p → p < n0 → cy (la p) = t (4 + p)) (hly : ∀ p, 0 ≤ p → p < n0 → ly (la p) = jt_lies t p) : ∀ k : Nat, (k : Int) ≤ n0 →
    (jg (t (32 + c)) (t (44 + c)) (t (50 + c)) (t (38 + c)) (t 2) cy la ly lf k).1 = jt_y t c k ∧
    (∀ m : Int, k ≤ m → m < n0 → (jg (t (32 + c)) (t (44 + c)) (t (50 + c)) (t (38 + c)) (t 2) cy la ly lf k).2.1 (la m) = jt_lies t m) ∧
    (∀ m : Nat, m < k → (jg (t (32 + c)) (t (44 + c)) (t (50 + c)) (t (38 + c)) (t 2) cy la ly lf k).2.1 (la m) = jt_lies t m + jt_by t c m (jt_y t c m) ∧ (jg (t (32 + c)) (t (44 + c)) (t (50 + c)) (t (38 + c)) (t 2) cy la ly lf k).2.2 (la m) = jt_by t c m (jt_y t c m))
  | 0 => fun _ => ⟨rfl, fun m m0 m1 => hly m (by omega) m1, fun m h => by omega⟩
  | k + 1 => by
    intro hk
    obtain ⟨i1, i2, i3⟩ := jg_la (lf := lf) (c := c) hla hcy hly k (by omega)
    have el := i2 k (by omega) (by omega)
    have eb : jg_b (t (32 + c)) (t (44 + c)) (t (50 + c)) (t 2) cy k (la k) (jt_y t c k) (jt_lies t k) = jt_by t c k (jt_y t c k) := by
      unfold jg_b jt_by
      rw [hcy k (by omega) (by omega)]
      omega
    have hne : ∀ p : Int, 0 ≤ p → p < n0 → p ≠ k → ¬ la p = la k := fun p p0 p1 hp q => hp (hla.2 p k p0 p1 (by omega) (by omega) q)
    refine ⟨?_, fun m m0 m1 => ?_, fun m hm => ?_⟩
    · simp only [jg]
      rw [i1, el, eb]
      rfl
    · simp only [jg, jm_u1]
      rw [if_neg (hne m (by omega) m1 (by omega))]
      exact i2 m (by omega) m1
    · simp only [jg]
      rw [i1, el, eb]
      simp only [jm_u1]
      by_cases e : m = k
      · rw [e, if_pos rfl, if_pos rfl]
        exact ⟨rfl, rfl⟩
      · have e2 := hne m (by omega) (by omega) (by omega)
        rw [if_neg e2, if_neg e2]
        exact i3 m (by omega)
/-- the walk's rows fa (which mat at each place), fb (how much lies) tell of the town T -/
def jw (fa fb la T : Int → Int) : Prop := (∀ p, 0 ≤ p → p < T 0 → fa p = la p ∧ fb (la p) = jt_lies T p) ∧ ∀ m, 0 ≤ m → m < 4 → 0 ≤ fb m ∧ fb m ≤ T 2
/-- the house is the town t -/
def jH (μ : jm_M) (t : Int → Int) : Prop := jt_wf t ∧ jt_kd t ∧ jh_mats μ 7 ∧ jh_rel μ 7 t
theorem jH_congr {μ μ' : jm_M} {t : Int → Int} (e : ∀ z, 7 ≤ z → z ≤ 23 → μ' z = μ z) (h : jH μ t) : jH μ' t := ⟨h.1, h.2.1, jg_mats (e 8 (by omega) (by omega)) (e 9 (by omega) (by omega)) h.2.2.1, jg_rel h.2.2.1 e (fun _ _ _ => rfl) h.1.1 h.1.2.1 h.2.2.2⟩
theorem jH_of {μ : jm_M} (h : jI μ) : jH μ (μ 95) := by
  obtain ⟨-, -, -, -, htown, -⟩ := h
  obtain ⟨hwf, hcf, hkd, hmat, hrel, -⟩ := htown
  exact ⟨hwf, hkd, hmat, hrel⟩
/-- the town on trial has t's law and comers, and its mats' countries as they are laid -/
def jS (t T la : Int → Int) : Prop := T 0 = t 0 ∧ T 1 = t 1 ∧ T 2 = t 2 ∧ (∀ p, 0 ≤ p → p < t 0 → T (4 + p) = t (4 + la p)) ∧ ∀ c, 0 ≤ c → c < t 1 → T (32 + c) = t (32 + c) ∧ T (38 + c) = t (38 + c) ∧ T (44 + c) = t (44 + c) ∧ T (50 + c) = t (50 + c)
theorem jS_id (t : Int → Int) : jS t t (fun p => p) := ⟨rfl, rfl, rfl, fun _ _ _ => rfl, fun _ _ _ => ⟨rfl, rfl, rfl, rfl⟩⟩
theorem jS_come {t T la : Int → Int} {c : Int} (h : jS t T la) (c0 : 0 ≤ c) (h0 : t 0 ≤ 4) (h1 : t 1 ≤ 6) : jS t (jt_come T c) la := by
  obtain ⟨a, b, d, e, f⟩ := h
  have o := fun j q => jt_come_out (t := T) (c := c) (j := j) q c0 (by omega)
  refine ⟨by rw [o 0 (by omega)]; exact a, by rw [o 1 (by omega)]; exact b, by rw [o 2 (by omega)]; exact d, fun p p0 p1 => by rw [o (4 + p) (by omega)]; exact e p p0 p1, fun x x0 x1 => ?_⟩
  rw [o (32 + x) (by omega), o (38 + x) (by omega), o (44 + x) (by omega), o (50 + x) (by omega)]
  exact f x x0 x1
theorem cl_goT45 {X : jm_X} {d : Nat} {Q : jv_P} {μ : jm_M} {z c : Int} {T la : Int → Int} (hz : jz_com z) (zb : z ≠ 47 ∧ z ≠ 48) (hw : jt_wf T) (hc : 0 ≤ c ∧ c < 6) (hk : 1 ≤ T (32 + c)) (h0 : μ z 0 = T (32 + c)) (h1 : μ z 1 = T (38 + c)) (h2 : μ z 2 = T (44 + c)) (h3 : μ z 3 = T (50 + c)) (hlim : μ 7 0 = T 2) (hn : μ 7 2 = T 0) (hmat : jh_mats μ 7) (hla : jl la (T 0)) (hcy : ∀ p, 0 ≤ p → p < T 0 → μ (μ 8 (la p)) 0 = T (4 + p)) (hJ : jw (μ 46) (μ 47) la T) (kk : ∀ μ2 : jm_M, (∀ u, u ≠ 47 → u ≠ 48 → μ2 u = μ u) → jw (μ2 46) (μ2 47) la (jt_come T c) → (∀ p, 0 ≤ p → p < T 0 → μ2 48 (la p) = jt_by T c p (jt_y T c p.toNat)) → Q [.inl (jt_y T c (T 0).toNat)] μ2) : cV X (d + 2) 84 [.inr (.inr 45), .inr (.inr 7), .inr (.inr z)] μ Q := by
  obtain ⟨w0, w1, w2, w3, w4, w6, w7, w8⟩ := id hw
  have w8c := w8 c hc.1 hc.2
  have hR := jg_r (so := T (32 + c)) (fr := T (44 + c)) (ma := T (50 + c)) (hs := T (38 + c)) (lim := T 2) (n0 := T 0) (cy := fun m => μ (μ 8 m) 0) (la := la) (ly := μ 47) (lf := μ 48) w8c.2.2.2 w8c.2.1 (fun p p0 p1 => by have q := hla.1 p p0 p1; omega) hJ.2 (T 0).toNat (by omega)
  have L := jg_la (t := T) (c := c) (n0 := T 0) (cy := fun m => μ (μ 8 m) 0) (la := la) (ly := μ 47) (lf := μ 48) hla hcy (fun p p0 p1 => (hJ.1 p p0 p1).2) (T 0).toNat (by omega)
  obtain ⟨L1, -, L3⟩ := L
  refine cl_goOver45 (so := T (32 + c)) (fr := T (44 + c)) (ma := T (50 + c)) (hs := T (38 + c)) (lim := T 2) (n0 := T 0) (cy := fun m => μ (μ 8 m) 0) (la := la) (ly := μ 47) (lf := μ 48) w0.1 hz zb h0 h1 h2 h3 hlim hn w0.2 ⟨hk, w8c.1.2⟩ w8c.2.2.2 w8c.2.1 w2.2 hmat (fun _ _ _ => rfl) (fun p p0 p1 => ⟨(hJ.1 p p0 p1).1, hla.1 p p0 p1⟩) rfl rfl hJ.2 (fun μ2 f e52 e53 => ?_)
  rw [L1]
  refine kk μ2 f ⟨fun p p0 p1 => ?_, fun m m0 m1 => ?_⟩ (fun p p0 p1 => ?_)
  · rw [jt_come_out (j := 0) (by omega) hc.1 w0.2] at p1
    have q := L3 p.toNat (by omega)
    rw [show ((p.toNat : Nat) : Int) = p by omega] at q
    rw [f 46 (by decide) (by decide), e52, q.1, jt_come_lies hw hc.1 hc.2 p0 (by omega), if_pos p1]
    exact ⟨(hJ.1 p p0 p1).1, rfl⟩
  · rw [e52, jt_come_out (j := 2) (by omega) hc.1 w0.2]
    exact hR.2 m m0 m1
  · have q := L3 p.toNat (by omega)
    rw [show ((p.toNat : Nat) : Int) = p by omega] at q
    rw [e53, q.2]
theorem cl_goC45 {X : jm_X} {d : Nat} {Q : jv_P} {μ : jm_M} {c : Int} {t T la : Int → Int} (hH : jH μ t) (hT : jt_wf T) (hS : jS t T la) (hla : jl la (t 0)) (hc : 0 ≤ c ∧ c < t 1) (hJ : jw (μ 46) (μ 47) la T) (kk : ∀ μ2 : jm_M, (∀ u, u ≠ 47 → u ≠ 48 → μ2 u = μ u) → jw (μ2 46) (μ2 47) la (jt_come T c) → (∀ p, 0 ≤ p → p < T 0 → μ2 48 (la p) = jt_by T c p (jt_y T c p.toNat)) → Q [.inl (jt_y T c (T 0).toNat)] μ2) : cV X (d + 2) 84 [.inr (.inr 45), .inr (.inr 7), .inr (.inr (18 + c))] μ Q := by
  obtain ⟨⟨w0, w1, w2, w3, w4, w6, w7, w8⟩, hkd, hmat, ⟨r0, r1, r2, r3⟩, rm, rz, rc⟩ := hH
  obtain ⟨s0, s1, s2, s4, s5⟩ := hS
  have q : μ (18 + c) 0 = t (32 + c) ∧ μ (18 + c) 1 = t (38 + c) ∧ μ (18 + c) 2 = t (44 + c) ∧ μ (18 + c) 3 = t (50 + c) ∧ μ (18 + c) 4 = t (56 + c) := rc c hc.1 hc.2
  have s := s5 c hc.1 hc.2
  have k := hkd c hc.1 hc.2
  refine cl_goT45 (jz_com7 hc.1 (by omega)) ⟨by omega, by omega⟩ hT ⟨hc.1, by omega⟩ (by omega) (by omega) (by omega) (by omega) (by omega) (by omega) (by omega) hmat (by rw [s0]; exact hla) (fun p p0 p1 => ?_) hJ kk
  rw [s4 p p0 (by omega)]
  have h := hla.1 p p0 (by omega)
  exact (rm (la p) h.1 h.2).1
theorem cl_beginT45 {X : jm_X} {d : Nat} {Q : jv_P} {μ : jm_M} {t : Int → Int} (hH : jH μ t) (k : ∀ μ2 : jm_M, (∀ z, z ≠ 46 → z ≠ 47 → z ≠ 48 → μ2 z = μ z) → jw (μ2 46) (μ2 47) (fun p => p) t → (∀ m, 0 ≤ m → m < 4 → μ2 48 m = 0) → Q [] μ2) : cV X (d + 2) 83 [.inr (.inr 45), .inr (.inr 7)] μ Q := by
  obtain ⟨hw, hkd, hmat, ⟨r0, r1, r2, r3⟩, rm, rz, rc⟩ := hH
  obtain ⟨w0, w1, w2, w3, w4, w6, w7, w8⟩ := id hw
  have rm' : ∀ m, 0 ≤ m → m < t 0 → μ (μ 8 m) 0 = t (4 + m) ∧ ∀ k, 0 ≤ k → k < 6 → μ (μ 8 m + 1) k = t (8 + 6 * m + k) := rm
  have rz' : ∀ m, t 0 ≤ m → m < 4 → ∀ k, 0 ≤ k → k < 6 → μ (μ 8 m + 1) k = 0 := rz
  refine cl_begin45 (s := fun m => if m < t 0 then jt_lies t m else 0) hmat (fun m m0 m1 j j0 j1 => ?_) (fun m m0 m1 => ?_) (fun μ2 f g => ?_)
  · by_cases h : m < t 0
    · rw [(rm' m m0 h).2 j j0 j1]
      exact w6 _ (by omega) (by omega)
    · rw [rz' m (by omega) m1 j j0 j1]
      decide
  · by_cases h : m < t 0
    · have e := (rm' m m0 h).2
      show _ = if m < t 0 then jt_lies t m else 0
      rw [if_pos h, e 0 (by decide) (by decide), e 1 (by decide) (by decide), e 2 (by decide) (by decide), e 3 (by decide) (by decide), e 4 (by decide) (by decide), e 5 (by decide) (by decide), Int.add_zero]
      rfl
    · have e := rz' m (by omega) m1
      show _ = if m < t 0 then jt_lies t m else 0
      rw [if_neg h, e 0 (by decide) (by decide), e 1 (by decide) (by decide), e 2 (by decide) (by decide), e 3 (by decide) (by decide), e 4 (by decide) (by decide), e 5 (by decide) (by decide)]
      rfl
  · refine k μ2 f ⟨fun p p0 p1 => ?_, fun m m0 m1 => ?_⟩ (fun m m0 m1 => (g m m0 m1).2.2)
    · have q := g p p0 (by omega)
      refine ⟨q.1, ?_⟩
      show μ2 47 p = jt_lies t p
      rw [q.2.1]
      show (if p < t 0 then jt_lies t p else 0) = _
      rw [if_pos p1]
    · have q := g m m0 m1
      have hl := jt_lies_r hw m0 m1
      rw [q.2.1]
      show 0 ≤ (if m < t 0 then jt_lies t m else 0) ∧ (if m < t 0 then jt_lies t m else 0) ≤ t 2
      split
      · exact hl
      · omega
theorem cl_goT50 {X : jm_X} {d : Nat} {Q : jv_P} {μ : jm_M} {z c : Int} {T la : Int → Int} (hz : jz_com z) (zb : z ≠ 52 ∧ z ≠ 53) (hw : jt_wf T) (hc : 0 ≤ c ∧ c < 6) (hk : 1 ≤ T (32 + c)) (h0 : μ z 0 = T (32 + c)) (h1 : μ z 1 = T (38 + c)) (h2 : μ z 2 = T (44 + c)) (h3 : μ z 3 = T (50 + c)) (hlim : μ 7 0 = T 2) (hn : μ 7 2 = T 0) (hmat : jh_mats μ 7) (hla : jl la (T 0)) (hcy : ∀ p, 0 ≤ p → p < T 0 → μ (μ 8 (la p)) 0 = T (4 + p)) (hJ : jw (μ 51) (μ 52) la T) (kk : ∀ μ2 : jm_M, (∀ u, u ≠ 52 → u ≠ 53 → μ2 u = μ u) → jw (μ2 51) (μ2 52) la (jt_come T c) → (∀ p, 0 ≤ p → p < T 0 → μ2 53 (la p) = jt_by T c p (jt_y T c p.toNat)) → Q [.inl (jt_y T c (T 0).toNat)] μ2) : cV X (d + 2) 84 [.inr (.inr 50), .inr (.inr 7), .inr (.inr z)] μ Q := by
  obtain ⟨w0, w1, w2, w3, w4, w6, w7, w8⟩ := id hw
  have w8c := w8 c hc.1 hc.2
  have hR := jg_r (so := T (32 + c)) (fr := T (44 + c)) (ma := T (50 + c)) (hs := T (38 + c)) (lim := T 2) (n0 := T 0) (cy := fun m => μ (μ 8 m) 0) (la := la) (ly := μ 52) (lf := μ 53) w8c.2.2.2 w8c.2.1 (fun p p0 p1 => by have q := hla.1 p p0 p1; omega) hJ.2 (T 0).toNat (by omega)
  have L := jg_la (t := T) (c := c) (n0 := T 0) (cy := fun m => μ (μ 8 m) 0) (la := la) (ly := μ 52) (lf := μ 53) hla hcy (fun p p0 p1 => (hJ.1 p p0 p1).2) (T 0).toNat (by omega)
  obtain ⟨L1, -, L3⟩ := L
  refine cl_goOver50 (so := T (32 + c)) (fr := T (44 + c)) (ma := T (50 + c)) (hs := T (38 + c)) (lim := T 2) (n0 := T 0) (cy := fun m => μ (μ 8 m) 0) (la := la) (ly := μ 52) (lf := μ 53) w0.1 hz zb h0 h1 h2 h3 hlim hn w0.2 ⟨hk, w8c.1.2⟩ w8c.2.2.2 w8c.2.1 w2.2 hmat (fun _ _ _ => rfl) (fun p p0 p1 => ⟨(hJ.1 p p0 p1).1, hla.1 p p0 p1⟩) rfl rfl hJ.2 (fun μ2 f e52 e53 => ?_)
  rw [L1]
  refine kk μ2 f ⟨fun p p0 p1 => ?_, fun m m0 m1 => ?_⟩ (fun p p0 p1 => ?_)
  · rw [jt_come_out (j := 0) (by omega) hc.1 w0.2] at p1
    have q := L3 p.toNat (by omega)
    rw [show ((p.toNat : Nat) : Int) = p by omega] at q
    rw [f 51 (by decide) (by decide), e52, q.1, jt_come_lies hw hc.1 hc.2 p0 (by omega), if_pos p1]
    exact ⟨(hJ.1 p p0 p1).1, rfl⟩
  · rw [e52, jt_come_out (j := 2) (by omega) hc.1 w0.2]
    exact hR.2 m m0 m1
  · have q := L3 p.toNat (by omega)
    rw [show ((p.toNat : Nat) : Int) = p by omega] at q
    rw [e53, q.2]
theorem cl_goC50 {X : jm_X} {d : Nat} {Q : jv_P} {μ : jm_M} {c : Int} {t T la : Int → Int} (hH : jH μ t) (hT : jt_wf T) (hS : jS t T la) (hla : jl la (t 0)) (hc : 0 ≤ c ∧ c < t 1) (hJ : jw (μ 51) (μ 52) la T) (kk : ∀ μ2 : jm_M, (∀ u, u ≠ 52 → u ≠ 53 → μ2 u = μ u) → jw (μ2 51) (μ2 52) la (jt_come T c) → (∀ p, 0 ≤ p → p < T 0 → μ2 53 (la p) = jt_by T c p (jt_y T c p.toNat)) → Q [.inl (jt_y T c (T 0).toNat)] μ2) : cV X (d + 2) 84 [.inr (.inr 50), .inr (.inr 7), .inr (.inr (18 + c))] μ Q := by
  obtain ⟨⟨w0, w1, w2, w3, w4, w6, w7, w8⟩, hkd, hmat, ⟨r0, r1, r2, r3⟩, rm, rz, rc⟩ := hH
  obtain ⟨s0, s1, s2, s4, s5⟩ := hS
  have q : μ (18 + c) 0 = t (32 + c) ∧ μ (18 + c) 1 = t (38 + c) ∧ μ (18 + c) 2 = t (44 + c) ∧ μ (18 + c) 3 = t (50 + c) ∧ μ (18 + c) 4 = t (56 + c) := rc c hc.1 hc.2
  have s := s5 c hc.1 hc.2
  have k := hkd c hc.1 hc.2
  refine cl_goT50 (jz_com7 hc.1 (by omega)) ⟨by omega, by omega⟩ hT ⟨hc.1, by omega⟩ (by omega) (by omega) (by omega) (by omega) (by omega) (by omega) (by omega) hmat (by rw [s0]; exact hla) (fun p p0 p1 => ?_) hJ kk
  rw [s4 p p0 (by omega)]
  have h := hla.1 p p0 (by omega)
  exact (rm (la p) h.1 h.2).1
theorem cl_beginT50 {X : jm_X} {d : Nat} {Q : jv_P} {μ : jm_M} {t : Int → Int} (hH : jH μ t) (k : ∀ μ2 : jm_M, (∀ z, z ≠ 51 → z ≠ 52 → z ≠ 53 → μ2 z = μ z) → jw (μ2 51) (μ2 52) (fun p => p) t → (∀ m, 0 ≤ m → m < 4 → μ2 53 m = 0) → Q [] μ2) : cV X (d + 2) 83 [.inr (.inr 50), .inr (.inr 7)] μ Q := by
  obtain ⟨hw, hkd, hmat, ⟨r0, r1, r2, r3⟩, rm, rz, rc⟩ := hH
  obtain ⟨w0, w1, w2, w3, w4, w6, w7, w8⟩ := id hw
  have rm' : ∀ m, 0 ≤ m → m < t 0 → μ (μ 8 m) 0 = t (4 + m) ∧ ∀ k, 0 ≤ k → k < 6 → μ (μ 8 m + 1) k = t (8 + 6 * m + k) := rm
  have rz' : ∀ m, t 0 ≤ m → m < 4 → ∀ k, 0 ≤ k → k < 6 → μ (μ 8 m + 1) k = 0 := rz
  refine cl_begin50 (s := fun m => if m < t 0 then jt_lies t m else 0) hmat (fun m m0 m1 j j0 j1 => ?_) (fun m m0 m1 => ?_) (fun μ2 f g => ?_)
  · by_cases h : m < t 0
    · rw [(rm' m m0 h).2 j j0 j1]
      exact w6 _ (by omega) (by omega)
    · rw [rz' m (by omega) m1 j j0 j1]
      decide
  · by_cases h : m < t 0
    · have e := (rm' m m0 h).2
      show _ = if m < t 0 then jt_lies t m else 0
      rw [if_pos h, e 0 (by decide) (by decide), e 1 (by decide) (by decide), e 2 (by decide) (by decide), e 3 (by decide) (by decide), e 4 (by decide) (by decide), e 5 (by decide) (by decide), Int.add_zero]
      rfl
    · have e := rz' m (by omega) m1
      show _ = if m < t 0 then jt_lies t m else 0
      rw [if_neg h, e 0 (by decide) (by decide), e 1 (by decide) (by decide), e 2 (by decide) (by decide), e 3 (by decide) (by decide), e 4 (by decide) (by decide), e 5 (by decide) (by decide)]
      rfl
  · refine k μ2 f ⟨fun p p0 p1 => ?_, fun m m0 m1 => ?_⟩ (fun m m0 m1 => (g m m0 m1).2.2)
    · have q := g p p0 (by omega)
      refine ⟨q.1, ?_⟩
      show μ2 52 p = jt_lies t p
      rw [q.2.1]
      show (if p < t 0 then jt_lies t p else 0) = _
      rw [if_pos p1]
    · have q := g m m0 m1
      have hl := jt_lies_r hw m0 m1
      rw [q.2.1]
      show 0 ≤ (if m < t 0 then jt_lies t m else 0) ∧ (if m < t 0 then jt_lies t m else 0) ≤ t 2
      split
      · exact hl
      · omega
/-- the town on trial in the reference's row -/
def jT (μ : jm_M) (T : Int → Int) : Prop := ∀ j, 0 ≤ j → j < 62 → μ 95 (1674 + j) = T j
/-- the reference has changed its trial alone -/
def jr (μ0 μ : jm_M) : Prop := (∀ z, z ≠ 95 → μ z = μ0 z) ∧ ∀ j, j < 1674 → μ 95 j = μ0 95 j
theorem jr_id (μ : jm_M) : jr μ μ := ⟨fun _ _ => rfl, fun _ _ => rfl⟩
theorem jr_tr {a b c : jm_M} (h : jr a b) (k : jr b c) : jr a c := ⟨fun z q => by rw [k.1 z q, h.1 z q], fun j q => by rw [k.2 j q, h.2 j q]⟩
theorem jT_wf {μ : jm_M} {T : Int → Int} (h : jT μ T) (hw : jt_wf T) : jt_wf (fun k => μ 95 (1674 + k)) := jt_wf_congr (fun k a b => (h k a b).symm) hw
theorem mo_comesT {X : jm_X} {d : Nat} {Q : jv_P} {μ : jm_M} {c : Int} {T : Int → Int} (hT : jT μ T) (hc : 0 ≤ c ∧ c < 6) (hw : jt_wf T) (hcf : jt_cf T 100000) (k : ∀ μ2, jr μ μ2 → jT μ2 (jt_come T c) → Q [.inl (jt_y T c (T 0).toNat)] μ2) : cV X (d + 3) 169 [.inr (.inr 94), .inl 1674, .inl c] μ Q := by
  have hs : ∀ k, 0 ≤ k → k < 62 → T k = (fun k => μ 95 (1674 + k)) k := fun k a b => (hT k a b).symm
  refine mo_comesAt (by omega) hc (jt_wf_congr hs hw) (jt_cf_congr hs hcf) ?_
  have e0 : μ 95 (1674 + 0) = T 0 := hT 0 (by omega) (by omega)
  rw [e0, ← jt_y_congr hs hc.1 hc.2 (T 0).toNat (by have := hw.1; omega)]
  refine k _ ⟨fun z q => jm_uc_ne q, fun j q => ?_⟩ (fun j j0 j1 => ?_)
  · rw [jm_uc_self]
    unfold jt_in
    rw [if_neg (by omega)]
  · rw [jm_uc_self, jt_in_at j0 j1, ← jt_come_congr hs hw.1.2 hc.1 hc.2 j0 j1]
theorem mo_liesT {X : jm_X} {d : Nat} {Q : jv_P} {μ : jm_M} {m : Int} {T : Int → Int} (hT : jT μ T) (hm : 0 ≤ m ∧ m < 4) (hw : jt_wf T) (k : Q [.inl (jt_lies T m)] μ) : cV X (d + 1) 166 [.inr (.inr 94), .inl 1674, .inl m] μ Q := by
  have hs : ∀ k, 0 ≤ k → k < 62 → T k = (fun k => μ 95 (1674 + k)) k := fun k a b => (hT k a b).symm
  refine mo_liesOn (by omega) hm (jt_wf_congr hs hw) ?_
  rw [← jt_lies_congr hs hm.1 hm.2]
  exact k
/-- the reference's own town is t -/
def jU (μ : jm_M) (t : Int → Int) : Prop := ∀ j, 0 ≤ j → j < 62 → μ 95 j = t j
theorem jU_jr {μ μ' : jm_M} {t : Int → Int} (h : jr μ μ') (k : jU μ t) : jU μ' t := fun j a b => by rw [h.2 j (by omega)]; exact k j a b
theorem mo_lies0 {X : jm_X} {d : Nat} {Q : jv_P} {μ : jm_M} {m : Int} {t : Int → Int} (hU : jU μ t) (hm : 0 ≤ m ∧ m < 4) (hw : jt_wf t) (k : Q [.inl (jt_lies t m)] μ) : cV X (d + 1) 166 [.inr (.inr 94), .inl 0, .inl m] μ Q := by
  have hs : ∀ k, 0 ≤ k → k < 62 → t k = (fun k => μ 95 (0 + k)) k := fun k a b => by
    show t k = μ 95 (0 + k)
    rw [Int.zero_add, hU k a b]
  refine mo_liesOn (by omega) hm (jt_wf_congr hs hw) ?_
  rw [← jt_lies_congr hs hm.1 hm.2]
  exact k
/-- the class has changed its trial alone -/
def jf (μ0 μ : jm_M) : Prop := ∀ z, (z < 45 ∨ 57 < z) → μ z = μ0 z
theorem jf_id (μ : jm_M) : jf μ μ := fun _ _ => rfl
theorem jf_tr {a b c : jm_M} (h : jf a b) (k : jf b c) : jf a c := fun z q => by rw [k z q, h z q]
theorem jI_pair {μ μ1 μ2 : jm_M} (h : jI μ) (fc : jf μ μ1) (fr : jr μ1 μ2) : jI μ2 := jI_trial h (fun z q => by rw [fr.1 z q.1, fc z (by omega)]) (fun j q => by rw [fr.2 j q, fc 95 (by omega)])
theorem jU_jf {μ μ' : jm_M} (h : jf μ μ') : jU μ' (μ 95) := fun j _ _ => by rw [h 95 (by omega)]
theorem jH_com {μ : jm_M} {t : Int → Int} (h : jH μ t) {c : Int} (c0 : 0 ≤ c) (c1 : c < 6) : μ 9 c = 18 + c := by
  have q := h.2.2.1.2.2 c c0 c1
  exact q
theorem jH_3 {μ : jm_M} {t : Int → Int} (h : jH μ t) : μ 7 3 = t 1 := h.2.2.2.1.2.2.2
theorem jH_2 {μ : jm_M} {t : Int → Int} (h : jH μ t) : μ 7 2 = t 0 := h.2.2.2.1.2.2.1
theorem jH_jf {μ μ' : jm_M} {t : Int → Int} (e : jf μ μ') (h : jH μ t) : jH μ' t := jH_congr (fun z a b => e z (by omega)) h
set_option maxRecDepth 10000 in
theorem mo_layTried {X : jm_X} {d : Nat} {Q : jv_P} {μ : jm_M} {t : Int → Int} (hU : jU μ t) (k : ∀ μ2, jr μ μ2 → jT μ2 t → Q [] μ2) : cV X (d + 2) 182 [.inr (.inr 94)] μ Q := by
  refine jv_enter (d := d + 1) jm_p_X10_layTried [some (.inr (.inr 94))] rfl rfl rfl (Nat.le_of_ble_eq_true rfl) rfl rfl ?_
  refine jv_aload_n rfl rfl rfl (by decide) ?_
  refine jv_iconst rfl rfl ?_
  refine jv_sipush rfl rfl ?_
  refine jv_callV2 rfl rfl rfl rfl ⟨by decide, rfl⟩ (Nat.le_of_ble_eq_true rfl) (mo_copyTown (by omega) (by omega) (by omega) ?_)
  generalize eμ3 : jm_uc μ 95 (jt_cp (μ 95) 0 1674 62) = μ3
  show jV _ _ jm_p_X10_layTried _ 4 [some (.inr (.inr 94))] [] μ3
  refine jv_return rfl ?_
  refine k _ ⟨fun z q => by rw [← eμ3]; exact jm_uc_ne q, fun j q => ?_⟩ (fun j j0 j1 => ?_)
  · rw [← eμ3, jm_uc_self]
    unfold jt_cp
    rw [if_neg (by omega)]
  · rw [← eμ3, jm_uc_self]
    unfold jt_cp
    rw [if_pos (by omega), show 0 + (1674 + j - 1674) = j by omega]
    exact hU j j0 j1
set_option maxRecDepth 10000 in
theorem mo_carriesIf {X : jm_X} {d : Nat} {Q : jv_P} {μ : jm_M} {c : Int} {t : Int → Int} (hUμ : jU μ t) (hc : 0 ≤ c ∧ c < 6) (hw : jt_wf t) (hcf : jt_cf t 100000) (k : ∀ μ2, jr μ μ2 → jT μ2 (jt_come t c) → Q [.inl (jt_y t c (t 0).toNat)] μ2) : cV X (d + 4) 183 [.inr (.inr 94), .inl c] μ Q := by
  refine jv_enter (d := d + 3) jm_p_X10_carriesIf [some (.inr (.inr 94)), some (.inl c)] rfl rfl rfl (Nat.le_of_ble_eq_true rfl) rfl rfl ?_
  refine jv_aload_n rfl rfl rfl (by decide) ?_
  refine jv_callV0 rfl rfl rfl rfl ⟨by decide, rfl⟩ (Nat.le_of_ble_eq_true rfl) (mo_layTried hUμ (fun μ1 fμ1 tμ1 => ?_))
  show jV _ _ jm_p_X10_carriesIf _ 2 [some (.inr (.inr 94)), some (.inl c)] [] μ1
  have hUμ1 := jU_jr fμ1 hUμ
  have u0μ1 := hUμ1 0 (by decide) (by decide)
  have u1μ1 := hUμ1 1 (by decide) (by decide)
  refine jv_aload_n rfl rfl rfl (by decide) ?_
  refine jv_sipush rfl rfl ?_
  refine jv_iload_n rfl rfl rfl ?_
  refine jv_callV2 rfl rfl rfl rfl ⟨by decide, rfl⟩ (Nat.le_of_ble_eq_true rfl) (mo_comesT (by assumption) hc hw hcf (fun μ5 fμ5 tμ5 => ?_))
  show jV _ _ jm_p_X10_carriesIf _ 6 [some (.inr (.inr 94)), some (.inl c)] [.inl (jt_y t c (t 0).toNat)] μ5
  have hUμ5 := jU_jr fμ5 hUμ1
  have u0μ5 := hUμ5 0 (by decide) (by decide)
  have u1μ5 := hUμ5 1 (by decide) (by decide)
  refine jv_ireturn rfl (Or.inl rfl) ?_
  exact k _ (jr_tr fμ1 fμ5) tμ5
