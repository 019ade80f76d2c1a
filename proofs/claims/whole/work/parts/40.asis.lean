/-- over the mats as they lie: what the town's own numbers say -/
theorem jg_id {t : Int → Int} {c n0 : Int} {cy la ly lf : Int → Int} (hla : ∀ p, 0 ≤ p → p < n0 → la p = p) (hcy : ∀ m, 0 ≤ m → m < n0 → cy m = t (4 + m)) (hly : ∀ m, 0 ≤ m → m < n0 → ly m = jt_lies t m) : ∀ k : Nat, (k : Int) ≤ n0 →
    (jg (t (32 + c)) (t (44 + c)) (t (50 + c)) (t (38 + c)) (t 2) cy la ly lf k).1 = jt_y t c k ∧
    (∀ m : Int, k ≤ m → m < n0 → (jg (t (32 + c)) (t (44 + c)) (t (50 + c)) (t (38 + c)) (t 2) cy la ly lf k).2.1 m = jt_lies t m) ∧
    (∀ m : Nat, m < k → (jg (t (32 + c)) (t (44 + c)) (t (50 + c)) (t (38 + c)) (t 2) cy la ly lf k).2.1 m = jt_lies t m + jt_by t c m (jt_y t c m) ∧ (jg (t (32 + c)) (t (44 + c)) (t (50 + c)) (t (38 + c)) (t 2) cy la ly lf k).2.2 m = jt_by t c m (jt_y t c m))
  | 0 => fun _ => ⟨rfl, fun m m0 m1 => hly m (by omega) m1, fun m h => by omega⟩
  | k + 1 => by
    intro hk
    obtain ⟨i1, i2, i3⟩ := jg_id (lf := lf) (c := c) hla hcy hly k (by omega)
    have ek : la k = k := hla k (by omega) (by omega)
    have el := i2 k (by omega) (by omega)
    have eb : jg_b (t (32 + c)) (t (44 + c)) (t (50 + c)) (t 2) cy k k (jt_y t c k) (jt_lies t k) = jt_by t c k (jt_y t c k) := by
      unfold jg_b jt_by
      rw [hcy k (by omega) (by omega)]
      omega
    refine ⟨?_, fun m m0 m1 => ?_, fun m hm => ?_⟩
    · simp only [jg]
      rw [ek, i1, el, eb]
      rfl
    · simp only [jg]
      rw [ek]
      have e : ¬ m = (k : Int) := by omega
      simp only [jm_u1]
      rw [if_neg e]
      exact i2 m (by omega) m1
    · simp only [jg]
      rw [ek, i1, el, eb]
      simp only [jm_u1]
      by_cases e : m = k
      · rw [e, if_pos rfl, if_pos rfl]
        exact ⟨rfl, rfl⟩
      · have e2 : ¬ (m : Int) = (k : Int) := by omega
        rw [if_neg e2, if_neg e2]
        exact i3 m (by omega)
