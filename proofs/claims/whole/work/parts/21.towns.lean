/-- a town stands in the row at base -/
def jt_in (f : Int → Int) (base : Int) (u : Int → Int) : Int → Int := fun j => if base ≤ j ∧ j < base + 62 then u (j - base) else f j
theorem jt_in_at {f u : Int → Int} {base k : Int} (h0 : 0 ≤ k) (h1 : k < 62) : jt_in f base u (base + k) = u k := by
  unfold jt_in
  rw [if_pos (by omega), show base + k - base = k by omega]
theorem jt_in_self (f : Int → Int) (base : Int) : jt_in f base (fun k => f (base + k)) = f := by
  funext j
  unfold jt_in
  split
  · dsimp only
    rw [show base + (j - base) = j by omega]
  · rfl
theorem jt_in_congr {f u v : Int → Int} {base : Int} (h : ∀ k, 0 ≤ k → k < 62 → u k = v k) : jt_in f base u = jt_in f base v := by
  funext j
  unfold jt_in
  split
  · exact h _ (by omega) (by omega)
  · rfl
theorem jt_lies_congr {t u : Int → Int} (h : ∀ k, 0 ≤ k → k < 62 → t k = u k) {m : Int} (m0 : 0 ≤ m) (m1 : m < 4) : jt_lies t m = jt_lies u m := by
  unfold jt_lies
  rw [h (8 + 6 * m) (by omega) (by omega), h (8 + 6 * m + 1) (by omega) (by omega), h (8 + 6 * m + 2) (by omega) (by omega), h (8 + 6 * m + 3) (by omega) (by omega), h (8 + 6 * m + 4) (by omega) (by omega), h (8 + 6 * m + 5) (by omega) (by omega)]
theorem jt_wf_congr {t u : Int → Int} (h : ∀ k, 0 ≤ k → k < 62 → t k = u k) (hw : jt_wf t) : jt_wf u := by
  obtain ⟨w0, w1, w2, w3, w4, w6, w7, w8⟩ := hw
  refine ⟨by rw [← h 0 (by omega) (by omega)]; exact w0, by rw [← h 1 (by omega) (by omega)]; exact w1, by rw [← h 2 (by omega) (by omega)]; exact w2, by rw [← h 3 (by omega) (by omega)]; exact w3, fun m m0 m1 => by rw [← h (4 + m) (by omega) (by omega)]; exact w4 m m0 m1, fun j j0 j1 => by rw [← h j (by omega) (by omega)]; exact w6 j j0 j1, fun m m0 m1 => by rw [← h 2 (by omega) (by omega), ← jt_lies_congr h m0 m1]; exact w7 m m0 m1, fun c c0 c1 => ?_⟩
  rw [← h (32 + c) (by omega) (by omega), ← h (38 + c) (by omega) (by omega), ← h (44 + c) (by omega) (by omega), ← h (50 + c) (by omega) (by omega)]
  exact w8 c c0 c1
theorem jt_by_congr {t u : Int → Int} (h : ∀ k, 0 ≤ k → k < 62 → t k = u k) {c m y : Int} (c0 : 0 ≤ c) (c1 : c < 6) (m0 : 0 ≤ m) (m1 : m < 4) : jt_by t c m y = jt_by u c m y := by
  unfold jt_by
  rw [h (32 + c) (by omega) (by omega), h (44 + c) (by omega) (by omega), h (50 + c) (by omega) (by omega), h (4 + m) (by omega) (by omega), h 2 (by omega) (by omega), jt_lies_congr h m0 m1]
theorem jt_y_congr {t u : Int → Int} (h : ∀ k, 0 ≤ k → k < 62 → t k = u k) {c : Int} (c0 : 0 ≤ c) (c1 : c < 6) : ∀ n : Nat, n ≤ 4 → jt_y t c n = jt_y u c n
  | 0, _ => h _ (by omega) (by omega)
  | n + 1, hn => by
    simp only [jt_y]
    rw [jt_y_congr h c0 c1 n (by omega), jt_by_congr h c0 c1 (by omega) (by omega)]
theorem jt_part_out {t : Int → Int} {c n j : Int} (h : j < 8 ∨ 32 ≤ j) (hn : n ≤ 4) : jt_part t c n j = t j := by
  unfold jt_part
  rw [if_neg (by omega)]
theorem jt_part_congr {t u : Int → Int} (h : ∀ k, 0 ≤ k → k < 62 → t k = u k) {c n : Int} (c0 : 0 ≤ c) (c1 : c < 6) (n4 : n ≤ 4) {j : Int} (j0 : 0 ≤ j) (j1 : j < 62) : jt_part t c n j = jt_part u c n j := by
  unfold jt_part
  rw [h (44 + c) (by omega) (by omega), h j j0 j1]
  split
  · rename_i q
    rw [jt_y_congr h c0 c1 _ (by omega), jt_by_congr h c0 c1 (by omega) (by omega)]
  · rfl
theorem jt_come_congr {t u : Int → Int} (h : ∀ k, 0 ≤ k → k < 62 → t k = u k) (hw : t 0 ≤ 4) {c : Int} (c0 : 0 ≤ c) (c1 : c < 6) {j : Int} (j0 : 0 ≤ j) (j1 : j < 62) : jt_come t c j = jt_come u c j := by
  unfold jt_come
  rw [h j j0 j1, ← h 0 (by omega) (by omega), jt_part_congr h c0 c1 hw j0 j1]
theorem jt_part_wf {t : Int → Int} (hw : jt_wf t) {c n : Int} (c0 : 0 ≤ c) (c1 : c < 6) (n4 : n ≤ 4) : jt_wf (jt_part t c n) := by
  have hl := fun m m0 m1 => jt_part_lies (n := n) hw (m := m) c0 c1 m0 m1 n4
  have hr := fun (m : Int) m0 m1 => jt_by_r hw (m := m) c0 c1 m0 m1 (jt_y_r hw c0 c1 m.toNat (by omega))
  obtain ⟨w0, w1, w2, w3, w4, w6, w7, w8⟩ := id hw
  have o := fun j h => jt_part_out (t := t) (c := c) (n := n) (j := j) h n4
  have hlt : ∀ m, 0 ≤ m → m < 4 → jt_lies (jt_part t c n) m ≤ t 2 := by
    intro m m0 m1
    rw [hl m m0 m1]
    split
    · have : jt_by t c m (jt_y t c m.toNat) ≤ t 2 - jt_lies t m := by unfold jt_by; omega
      omega
    · have := w7 m m0 m1; omega
  have hnn : ∀ j, 8 ≤ j → j < 32 → 0 ≤ jt_part t c n j := by
    intro j j0 j1
    unfold jt_part
    have := w6 j j0 j1
    split
    · have := hr ((j - 8) / 6) (by omega) (by omega)
      omega
    · omega
  refine ⟨by rw [o 0 (by omega)]; exact w0, by rw [o 1 (by omega)]; exact w1, by rw [o 2 (by omega)]; exact w2, by rw [o 3 (by omega)]; exact w3, fun m m0 m1 => by rw [o (4 + m) (by omega)]; exact w4 m m0 m1, fun j j0 j1 => ?_, fun m m0 m1 => by rw [o 2 (by omega)]; exact hlt m m0 m1, fun c' c0' c1' => ?_⟩
  · refine ⟨hnn j j0 j1, ?_⟩
    have h1 := hlt ((j - 8) / 6) (by omega) (by omega)
    unfold jt_lies at h1
    generalize hm : (j - 8) / 6 = m at h1
    have b0 := hnn (8 + 6 * m) (by omega) (by omega)
    have b1 := hnn (8 + 6 * m + 1) (by omega) (by omega)
    have b2 := hnn (8 + 6 * m + 2) (by omega) (by omega)
    have b3 := hnn (8 + 6 * m + 3) (by omega) (by omega)
    have b4 := hnn (8 + 6 * m + 4) (by omega) (by omega)
    have b5 := hnn (8 + 6 * m + 5) (by omega) (by omega)
    rcases (show j = 8 + 6 * m ∨ j = 8 + 6 * m + 1 ∨ j = 8 + 6 * m + 2 ∨ j = 8 + 6 * m + 3 ∨ j = 8 + 6 * m + 4 ∨ j = 8 + 6 * m + 5 by omega) with q | q | q | q | q | q <;> rw [q] <;> omega
  · rw [o (32 + c') (by omega), o (38 + c') (by omega), o (44 + c') (by omega), o (50 + c') (by omega)]
    exact w8 c' c0' c1'
theorem jt_by_part {t : Int → Int} (hw : jt_wf t) {c n m y : Int} (c0 : 0 ≤ c) (c1 : c < 6) (n4 : n ≤ 4) (m0 : 0 ≤ m) (m1 : m < 4) (hnm : n ≤ m) : jt_by (jt_part t c n) c m y = jt_by t c m y := by
  unfold jt_by
  rw [jt_part_lies hw c0 c1 m0 m1 n4, if_neg (by omega), jt_part_out (j := 32 + c) (by omega) n4, jt_part_out (j := 44 + c) (by omega) n4, jt_part_out (j := 50 + c) (by omega) n4, jt_part_out (j := 4 + m) (by omega) n4, jt_part_out (j := 2) (by omega) n4, Int.add_zero]
theorem jt_part_0 {t : Int → Int} {c : Int} : jt_part t c 0 = t := by
  funext j
  unfold jt_part
  rw [if_neg (by omega)]
/-- the next mat gets its part -/
theorem jt_part_s {t : Int → Int} {c m : Int} (hf : 0 ≤ t (44 + c) ∧ t (44 + c) ≤ 5) (m0 : 0 ≤ m) (m1 : m < 4) (j : Int) : jt_part t c (m + 1) j = if j = 8 + 6 * m + t (44 + c) then jt_part t c m j + jt_by t c m (jt_y t c m.toNat) else jt_part t c m j := by
  unfold jt_part
  by_cases hj : j = 8 + 6 * m + t (44 + c)
  · rw [if_pos hj, if_pos (by omega), if_neg (by omega), show (j - 8) / 6 = m by omega]
  · rw [if_neg hj]
    by_cases hq : 8 ≤ j ∧ j < 8 + 6 * m ∧ (j - 8) % 6 = t (44 + c)
    · rw [if_pos hq, if_pos (by omega)]
    · rw [if_neg hq, if_neg (by omega)]
theorem jt_come_wf {t : Int → Int} (hw : jt_wf t) {c : Int} (c0 : 0 ≤ c) (c1 : c < 6) : jt_wf (jt_come t c) := by
  have h1 := jt_part_wf hw c0 c1 hw.1.2
  have key : ∀ j, j < 56 → jt_come t c j = jt_part t c (t 0) j := fun j hj => by unfold jt_come; rw [if_neg (by omega)]
  obtain ⟨w0, w1, w2, w3, w4, w6, w7, w8⟩ := h1
  refine ⟨by rw [key 0 (by omega)]; exact w0, by rw [key 1 (by omega)]; exact w1, by rw [key 2 (by omega)]; exact w2, by rw [key 3 (by omega)]; exact w3, fun m m0 m1 => by rw [key _ (by omega)]; exact w4 m m0 m1, fun j j0 j1 => by rw [key _ (by omega)]; exact w6 j j0 j1, fun m m0 m1 => ?_, fun c' c0' c1' => ?_⟩
  · have e : jt_lies (jt_come t c) m = jt_lies (jt_part t c (t 0)) m := by
      unfold jt_lies
      rw [key _ (by omega), key _ (by omega), key _ (by omega), key _ (by omega), key _ (by omega), key _ (by omega)]
    rw [key 2 (by omega), e]
    exact w7 m m0 m1
  · rw [key _ (by omega), key _ (by omega), key _ (by omega), key _ (by omega)]
    exact w8 c' c0' c1'
theorem jt_come_lies {t : Int → Int} (hw : jt_wf t) {c m : Int} (c0 : 0 ≤ c) (c1 : c < 6) (m0 : 0 ≤ m) (m1 : m < 4) : jt_lies (jt_come t c) m = jt_lies t m + if m < t 0 then jt_by t c m (jt_y t c m.toNat) else 0 := by
  rw [← jt_part_lies hw c0 c1 m0 m1 hw.1.2]
  unfold jt_lies
  have key : ∀ j, j < 56 → jt_come t c j = jt_part t c (t 0) j := fun j hj => by unfold jt_come; rw [if_neg (by omega)]
  rw [key _ (by omega), key _ (by omega), key _ (by omega), key _ (by omega), key _ (by omega), key _ (by omega)]
theorem jt_come_out {t : Int → Int} {c j : Int} (h : j < 8 ∨ (32 ≤ j ∧ j < 56)) (c0 : 0 ≤ c) (ht : t 0 ≤ 4) : jt_come t c j = t j := by
  unfold jt_come
  rw [if_neg (by omega), jt_part_out (by omega) ht]
