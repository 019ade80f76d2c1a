/-- one goes over k places: what he has yet, what lies, what he left -/
def jg_b (so fr ma lim : Int) (cy : Int → Int) (p m y l : Int) : Int := min (jt_wip so fr ma p (cy m) y) (min y (lim - l))
def jg (so fr ma hs lim : Int) (cy la ly lf : Int → Int) : Nat → Int × (Int → Int) × (Int → Int)
  | 0 => (hs, ly, lf)
  | k + 1 => ((jg so fr ma hs lim cy la ly lf k).1 - jg_b so fr ma lim cy k (la k) (jg so fr ma hs lim cy la ly lf k).1 ((jg so fr ma hs lim cy la ly lf k).2.1 (la k)), jm_u1 (jg so fr ma hs lim cy la ly lf k).2.1 (la k) ((jg so fr ma hs lim cy la ly lf k).2.1 (la k) + jg_b so fr ma lim cy k (la k) (jg so fr ma hs lim cy la ly lf k).1 ((jg so fr ma hs lim cy la ly lf k).2.1 (la k))), jm_u1 (jg so fr ma hs lim cy la ly lf k).2.2 (la k) (jg_b so fr ma lim cy k (la k) (jg so fr ma hs lim cy la ly lf k).1 ((jg so fr ma hs lim cy la ly lf k).2.1 (la k))))
theorem jg_b_r {so fr ma lim : Int} {cy : Int → Int} {p m y l : Int} (hm : 0 ≤ ma ∧ ma ≤ 9) (hy : 0 ≤ y ∧ y ≤ 60) (hl : 0 ≤ l ∧ l ≤ lim) : 0 ≤ jg_b so fr ma lim cy p m y l ∧ jg_b so fr ma lim cy p m y l ≤ y ∧ jg_b so fr ma lim cy p m y l ≤ lim - l := by
  have h := jt_wip_r (s := so) (f := fr) (p := p) (c := cy m) hm hy
  unfold jg_b
  omega
theorem jg_r {so fr ma hs lim n0 : Int} {cy la ly lf : Int → Int} (hm : 0 ≤ ma ∧ ma ≤ 9) (hh : 0 ≤ hs ∧ hs ≤ 60) (hla : ∀ p, 0 ≤ p → p < n0 → 0 ≤ la p ∧ la p < 4) (hl : ∀ m, 0 ≤ m → m < 4 → 0 ≤ ly m ∧ ly m ≤ lim) : ∀ k : Nat, (k : Int) ≤ n0 → (0 ≤ (jg so fr ma hs lim cy la ly lf k).1 ∧ (jg so fr ma hs lim cy la ly lf k).1 ≤ 60) ∧ ∀ m, 0 ≤ m → m < 4 → 0 ≤ (jg so fr ma hs lim cy la ly lf k).2.1 m ∧ (jg so fr ma hs lim cy la ly lf k).2.1 m ≤ lim
  | 0 => fun _ => ⟨hh, hl⟩
  | k + 1 => by
    intro hk
    have ih := jg_r (so := so) (fr := fr) (cy := cy) (la := la) (lf := lf) hm hh hla hl k (by omega)
    have hp := hla k (by omega) (by omega)
    have h2 := ih.2 (la k) hp.1 hp.2
    have hb := jg_b_r (so := so) (fr := fr) (cy := cy) (p := k) (m := la k) hm ih.1 h2
    refine ⟨?_, fun m m0 m1 => ?_⟩
    · simp only [jg]
      omega
    · simp only [jg, jm_u1]
      have h1 := ih.2 m m0 m1
      split
      · omega
      · exact h1
