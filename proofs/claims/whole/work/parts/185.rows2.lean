theorem jm_sw_1 {K : Nat → Prop} {a t : Int} (h : K t.toNat) : jm_sw K a [t] := h
section JVR2
variable {X : jm_X} {d : Nat} {P : List jm_E} {Q : jv_P} {i j : Nat} {L L2 : jm_L} {st r : List jm_V} {μ : jm_M} {pc len : Nat} {res : List Int}
theorem jv_istoreK {k0 : Nat} {z : Int} (he : P[i]? = some (pc, .istore k0, len, res)) (hj : i + 1 = j) (hL : jm_set L k0 (.inl z) = L2) (k : jV X d P Q j L2 r μ) : jV X d P Q i L (.inl z :: r) μ := jm_fold (jm_CW_mono X jm_PP d) he (by subst hj; subst hL; exact k)
theorem jv_istore_nK {k0 : Fin 4} {z : Int} (he : P[i]? = some (pc, .istore_n k0, len, res)) (hj : i + 1 = j) (hL : jm_set L k0.val (.inl z) = L2) (k : jV X d P Q j L2 r μ) : jV X d P Q i L (.inl z :: r) μ := jm_fold (jm_CW_mono X jm_PP d) he (by subst hj; subst hL; exact k)
theorem jv_iincK {k0 : Nat} {n z : Int} (he : P[i]? = some (pc, .iinc k0 n, len, res)) (hj : i + 1 = j) (hl : L[k0]? = some (some (.inl z))) (hc : jm_r (z + n)) (hL : jm_set L k0 (.inl (z + n)) = L2) (k : jV X d P Q j L2 st μ) : jV X d P Q i L st μ := jm_fold (jm_CW_mono X jm_PP d) he (by subst hj; subst hL; simp only [jm_sem, hl]; exact And.intro hc k)
theorem jm_uc_at (μ : jm_M) (z a : Int) (f : Int → Int) : jm_uc μ z f a = if a = z then f else μ a := rfl
theorem jm_u1_at (f : Int → Int) (j v b : Int) : jm_u1 f j v b = if b = j then v else f b := rfl
theorem jm_uc2 (μ : jm_M) (z : Int) (f g : Int → Int) : jm_uc (jm_uc μ z f) z g = jm_uc μ z g := by
  funext a
  simp only [jm_uc]
  split <;> rfl
theorem jm_uc_id (μ : jm_M) (z : Int) : jm_uc μ z (μ z) = μ := by
  funext a
  simp only [jm_uc]
  split
  · rename_i h; rw [h]
  · rfl
theorem jm_uc_swap {μ : jm_M} {a b : Int} {f g : Int → Int} (h : a ≠ b) : jm_uc (jm_uc μ a f) b g = jm_uc (jm_uc μ b g) a f := by
  funext x
  simp only [jm_uc]
  split <;> split <;> first | rfl | (exfalso; omega)
end JVR2
/-! the hotel as a row of 62 numbers (a town), and what a coming does to it -/
def jt_lies (t : Int → Int) (m : Int) : Int := t (8 + 6 * m) + t (8 + 6 * m + 1) + t (8 + 6 * m + 2) + t (8 + 6 * m + 3) + t (8 + 6 * m + 4) + t (8 + 6 * m + 5)
/-- what one of a sort leaves, were there no end to what he has and the mat takes -/
def jt_wip (sort fr man place country has : Int) : Int := if sort = 2 then (if country = fr then 2 * man else man) else if sort = 3 then (if place = 0 then 0 else man) else if sort = 4 then (if place = 0 then has / 2 else 0) else if sort = 5 then has / 2 else man
def jt_by (t : Int → Int) (c m yet : Int) : Int := min (min (jt_wip (t (32 + c)) (t (44 + c)) (t (50 + c)) m (t (4 + m)) yet) yet) (t 2 - jt_lies t m)
def jt_y (t : Int → Int) (c : Int) : Nat → Int
  | 0 => t (38 + c)
  | k + 1 => jt_y t c k - jt_by t c k (jt_y t c k)
/-- the first n mats have got what he leaves -/
def jt_part (t : Int → Int) (c n : Int) : Int → Int := fun j => if 8 ≤ j ∧ j < 8 + 6 * n ∧ (j - 8) % 6 = t (44 + c) then t j + jt_by t c ((j - 8) / 6) (jt_y t c ((j - 8) / 6).toNat) else t j
def jt_come (t : Int → Int) (c : Int) : Int → Int := fun j => if j = 56 + c then t j + 1 else jt_part t c (t 0) j
def jt_wf (t : Int → Int) : Prop := (0 ≤ t 0 ∧ t 0 ≤ 4) ∧ (0 ≤ t 1 ∧ t 1 ≤ 6) ∧ (0 ≤ t 2 ∧ t 2 ≤ 60) ∧ (0 ≤ t 3 ∧ t 3 ≤ 9) ∧ (∀ m, 0 ≤ m → m < 4 → 0 ≤ t (4 + m) ∧ t (4 + m) ≤ 5) ∧ (∀ j, 8 ≤ j → j < 32 → 0 ≤ t j ∧ t j ≤ 60) ∧ (∀ m, 0 ≤ m → m < 4 → jt_lies t m ≤ t 2) ∧
  (∀ c, 0 ≤ c → c < 6 → (0 ≤ t (32 + c) ∧ t (32 + c) ≤ 5) ∧ (0 ≤ t (38 + c) ∧ t (38 + c) ≤ 60) ∧ (0 ≤ t (44 + c) ∧ t (44 + c) ≤ 5) ∧ (0 ≤ t (50 + c) ∧ t (50 + c) ≤ 9))
def jt_cf (t : Int → Int) (K : Int) : Prop := ∀ c, 0 ≤ c → c < 6 → 0 ≤ t (56 + c) ∧ t (56 + c) ≤ K
theorem jt_lies_r {t : Int → Int} (h : jt_wf t) {m : Int} (h0 : 0 ≤ m) (h1 : m < 4) : 0 ≤ jt_lies t m ∧ jt_lies t m ≤ t 2 := by
  obtain ⟨-, -, -, -, -, a6, a7, -⟩ := h
  refine ⟨?_, a7 m h0 h1⟩
  unfold jt_lies
  have b0 := a6 (8 + 6 * m) (by omega) (by omega)
  have b1 := a6 (8 + 6 * m + 1) (by omega) (by omega)
  have b2 := a6 (8 + 6 * m + 2) (by omega) (by omega)
  have b3 := a6 (8 + 6 * m + 3) (by omega) (by omega)
  have b4 := a6 (8 + 6 * m + 4) (by omega) (by omega)
  have b5 := a6 (8 + 6 * m + 5) (by omega) (by omega)
  omega
theorem jt_wip_r {s f n p c h : Int} (hn : 0 ≤ n ∧ n ≤ 9) (hh : 0 ≤ h ∧ h ≤ 60) : 0 ≤ jt_wip s f n p c h ∧ jt_wip s f n p c h ≤ 60 := by
  unfold jt_wip
  repeat' split
  all_goals omega
theorem jt_by_r {t : Int → Int} (h : jt_wf t) {c m y : Int} (c0 : 0 ≤ c) (c1 : c < 6) (m0 : 0 ≤ m) (m1 : m < 4) (hy : 0 ≤ y ∧ y ≤ 60) : 0 ≤ jt_by t c m y ∧ jt_by t c m y ≤ y := by
  have h1 := jt_lies_r h m0 m1
  have h2 := jt_wip_r (s := t (32 + c)) (f := t (44 + c)) (p := m) (c := t (4 + m)) (h.2.2.2.2.2.2.2 c c0 c1).2.2.2 hy
  unfold jt_by
  omega
theorem jt_y_r {t : Int → Int} (h : jt_wf t) {c : Int} (c0 : 0 ≤ c) (c1 : c < 6) : ∀ k : Nat, k ≤ 4 → 0 ≤ jt_y t c k ∧ jt_y t c k ≤ 60
  | 0, _ => (h.2.2.2.2.2.2.2 c c0 c1).2.1
  | k + 1, hk => by
    have h1 := jt_y_r h c0 c1 k (by omega)
    have h2 := jt_by_r h c0 c1 (m := k) (by omega) (by omega) h1
    simp only [jt_y]
    omega
theorem jt_part_lies {t : Int → Int} (h : jt_wf t) {c n m : Int} (c0 : 0 ≤ c) (c1 : c < 6) (m0 : 0 ≤ m) (m1 : m < 4) (n4 : n ≤ 4) : jt_lies (jt_part t c n) m = jt_lies t m + if m < n then jt_by t c m (jt_y t c m.toNat) else 0 := by
  have hf := (h.2.2.2.2.2.2.2 c c0 c1).2.2.1
  have key : ∀ k, 0 ≤ k → k < 6 → jt_part t c n (8 + 6 * m + k) = t (8 + 6 * m + k) + if m < n ∧ k = t (44 + c) then jt_by t c m (jt_y t c m.toNat) else 0 := by
    intro k k0 k1
    unfold jt_part
    have e1 : (8 + 6 * m + k - 8) % 6 = k := by omega
    have e2 : (8 + 6 * m + k - 8) / 6 = m := by omega
    rw [e1, e2]
    by_cases hm : m < n
    · by_cases hk : k = t (44 + c)
      · rw [if_pos ⟨by omega, by omega, hk⟩, if_pos ⟨hm, hk⟩]
      · rw [if_neg (fun q => hk q.2.2), if_neg (fun q => hk q.2)]; omega
    · rw [if_neg (fun q => hm (by omega)), if_neg (fun q => hm q.1)]; omega
  have k0 := key 0 (by omega) (by omega)
  rw [Int.add_zero] at k0
  unfold jt_lies
  rw [k0, key 1 (by omega) (by omega), key 2 (by omega) (by omega), key 3 (by omega) (by omega), key 4 (by omega) (by omega), key 5 (by omega) (by omega)]
  by_cases hm : m < n
  · rw [if_pos hm]
    simp only [hm, true_and]
    rcases (show t (44 + c) = 0 ∨ t (44 + c) = 1 ∨ t (44 + c) = 2 ∨ t (44 + c) = 3 ∨ t (44 + c) = 4 ∨ t (44 + c) = 5 by omega) with q | q | q | q | q | q <;> rw [q] <;> simp <;> omega
  · rw [if_neg hm]
    simp only [hm, false_and, if_false]
    omega
