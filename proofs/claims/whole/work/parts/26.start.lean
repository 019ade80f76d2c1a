theorem jm_sem_C {X : jm_X} {C C' : jm_C} {B : Nat × Nat} {Q : jm_Q} {K : jm_K} (hC : ∀ n vs h Q, C n vs h Q → C' n vs h Q) (e : jm_E) (i : Nat) (L : jm_L) (st : List jm_V) (h : jm_H) :
    jm_sem X C B Q K e i L st h → jm_sem X C' B Q K e i L st h := by
  obtain ⟨pc, ins, len, res⟩ := e
  cases ins
  case invokevirtual =>
    simp only [jm_sem]
    split
    · split
      · split
        · exact fun q => ⟨q.1, hC _ _ _ _ q.2⟩
        · exact id
      · exact id
    · exact id
  case invokestatic =>
    simp only [jm_sem]
    split
    · exact fun q => ⟨q.1, hC _ _ _ _ q.2⟩
    · exact id
    · exact id
    · exact id
  case invokespecial =>
    simp only [jm_sem]
    split
    · split
      · exact fun q => ⟨q.1, q.2.1, hC _ _ _ _ q.2.2⟩
      · exact id
    · exact id
    · exact id
  all_goals exact id
/-- more calls may stand open -/
theorem jm_CW_s (X : jm_X) : ∀ (d n : Nat) (vs : List jm_V) (h : jm_H) (Q : jm_Q), jm_CW X jm_PP d n vs h Q → jm_CW X jm_PP (d + 1) n vs h Q
  | 0, _, _, _, _, q => q.elim
  | d + 1, n, vs, h, Q, q => ⟨q.1, fun K hK => q.2 K (fun i e L st h he z => hK i e L st h he (jm_sem_C (fun n vs h Q => jm_CW_s X d n vs h Q) e i L st h z))⟩
theorem jm_CW_le (X : jm_X) {d d' n : Nat} {vs : List jm_V} {h : jm_H} {Q : jm_Q} (hd : d ≤ d') (q : jm_CW X jm_PP d n vs h Q) : jm_CW X jm_PP d' n vs h Q := by
  induction hd with
  | refl => exact q
  | step _ ih => exact jm_CW_s X _ n vs h Q ih
theorem cV_le {X : jm_X} {d d' f : Nat} {vs : List jm_V} {μ : jm_M} {Q : jv_P} (hd : d ≤ d') (q : cV X d f vs μ Q) : cV X d' f vs μ Q := jm_CW_le X hd q
/-! the start: the two constructors have run -/
def jx_tab : List (Int × List Int) := [(4, [-1, -1, -1, -1, -1, -1, -1, -1]), (8, [10, 12, 14, 16]), (9, [18, 19, 20, 21, 22, 23]), (25, [27, 29, 31, 33]), (26, [35, 36, 37, 38, 39, 40]), (41, [60, 77]), (61, [63, 65, 67, 69]), (62, [71, 72, 73, 74, 75, 76]), (78, [80, 82, 84, 86]), (79, [88, 89, 90, 91, 92, 93]), (98, [-1, -1, -1, -1, -1, -1, -1, -1])]
def jx_want (i j : Nat) : Int := match jx_tab.find? (fun q => q.1 == (i : Int)) with
  | some q => q.2.getD j 0
  | none => 0
/-- all cells, all places in range -/
def jx_mem (μ : jm_M) : Bool := (List.range 104).all (fun i => (List.range (jm_SH.getD i (0, 0, [])).2.1).all (fun j => decide (μ i j = jx_want i j)))
def jx_okb (q : Option (Bool × jm_L × List jm_V × jm_H)) : Bool := match q with
  | some (b, L, st, h) => decide (b = true) && (decide (L = [some (.inr (.inr (-2))), some (.inr (.inr 0)), some (.inr (.inr 94)), some (.inl 0)]) && (decide (st = []) && (decide (h.1 = jm_SH) && jx_mem h.2)))
  | none => false
theorem jx_gen (q : Option (Bool × jm_L × List jm_V × jm_H)) (h : jx_okb q = true) : ∃ μ, q = some (true, [some (.inr (.inr (-2))), some (.inr (.inr 0)), some (.inr (.inr 94)), some (.inl 0)], [], (jm_SH, μ)) ∧ jx_mem μ = true := by
  match q, h with
  | some (b, L, st, (h1, h2)), h =>
    simp only [jx_okb, Bool.and_eq_true, decide_eq_true_eq] at h
    obtain ⟨rfl, rfl, rfl, rfl, h5⟩ := h
    exact ⟨h2, rfl, h5⟩
def jx_h0 : Option (Bool × jm_L × List jm_V × jm_H) := jx_go (jx_ce 8) (104, 4049) jm_p_L_law 10 100 0 [some (.inr (.inr (-2))), none, none, none] [] ([], fun _ _ => 0)
theorem jx_h0_ok : jx_okb jx_h0 = true := by decide +kernel
set_option maxRecDepth 100000 in
theorem jx_fin : ∃ μ, jx_h0 = some (true, [some (.inr (.inr (-2))), some (.inr (.inr 0)), some (.inr (.inr 94)), some (.inl 0)], [], (jm_SH, μ)) ∧ jx_mem μ = true := jx_gen jx_h0 jx_h0_ok
theorem jx_ce_up (X : jm_X) : ∀ (n : Nat) (vs : List jm_V) (h h2 : jm_H) (Q : jm_Q), jx_ce 8 n vs h = some h2 → Q [] h2 → jm_CW X jm_PP 200 n vs h Q := fun n vs h h2 Q a b => jm_CW_le X (by decide) (jx_ce_sound X 8 n vs h h2 Q a b)
/-- the law's run, from the constructors on -/
theorem jx_law {len : Nat} {sc : Int → Int} (k : ∀ μ, jx_mem μ = true → jV (jm_xt len sc) 200 jm_p_L_law (fun v _ => v = [.inl 1]) 10 [some (.inr (.inr (-2))), some (.inr (.inr 0)), some (.inr (.inr 94)), some (.inl 0)] [] μ) : jm_WP (jm_xt len sc) (jm_CW (jm_xt len sc) jm_PP 200) (104, 4049) jm_p_L_law (fun v _ => v = [.inl 1]) 0 [some (.inr (.inr (-2))), none, none, none] [] ([], fun _ _ => 0) := by
  obtain ⟨μ, h1, h2⟩ := jx_fin
  refine jx_sound (jm_CW_mono _ _ _) (jx_ce_up _) _ _ _ _ _ _ _ _ _ h1 (fun _ => ?_) (fun q => by cases q)
  exact jm_WP_Q (fun v h q => q.2) (k μ h2)
