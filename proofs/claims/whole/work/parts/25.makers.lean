/-! the constructors: nothing is told them, so they are run -/
def jx_go (CE : Nat → List jm_V → jm_H → Option jm_H) (B : Nat × Nat) (P : List jm_E) (stop : Nat) : Nat → Nat → jm_L → List jm_V → jm_H → Option (Bool × jm_L × List jm_V × jm_H)
  | 0, _, _, _, _ => none
  | k + 1, i, L, st, h => if i = stop then some (true, L, st, h) else match P[i]? with
    | none => none
    | some e => match e.2.1 with
      | .iconst n => jx_go CE B P stop k (i + 1) L (.inl n :: st) h
      | .bipush n => jx_go CE B P stop k (i + 1) L (.inl n :: st) h
      | .sipush n => jx_go CE B P stop k (i + 1) L (.inl n :: st) h
      | .iload_n q => match L[q.val]? with
        | some (some (.inl z)) => jx_go CE B P stop k (i + 1) L (.inl z :: st) h
        | _ => none
      | .aload_n q => match L[q.val]? with
        | some (some (.inr (.inr z))) => if ¬ z = -1 then jx_go CE B P stop k (i + 1) L (.inr (.inr z) :: st) h else none
        | _ => none
      | .istore_n q => match st with
        | .inl z :: r => jx_go CE B P stop k (i + 1) (jm_set L q.val (.inl z)) r h
        | _ => none
      | .astore_n q => match st with
        | .inr (.inr z) :: r => if ¬ z = -1 then jx_go CE B P stop k (i + 1) (jm_set L q.val (.inr (.inr z))) r h else none
        | _ => none
      | .iinc q n => match L[q]? with
        | some (some (.inl z)) => if jm_r (z + n) then jx_go CE B P stop k (i + 1) (jm_set L q (.inl (z + n))) st h else none
        | _ => none
      | .dup => match st with
        | .inr (.inr a) :: r => jx_go CE B P stop k (i + 1) L (.inr (.inr a) :: .inr (.inr a) :: r) h
        | _ => none
      | .goto _ => match e.2.2.2 with
        | [t] => jx_go CE B P stop k t.toNat L st h
        | _ => none
      | .if_icmp .ge _ => match st, e.2.2.2 with
        | .inl b :: .inl a :: r, [t] => if b ≤ a then jx_go CE B P stop k t.toNat L r h else jx_go CE B P stop k (i + 1) L r h
        | _, _ => none
      | .getfield _ => match st, e.2.2.2 with
        | .inr (.inr z) :: r, [c, f, t] => match h.1[z.toNat]? with
          | some s => if (0 ≤ z ∧ s.1 = 10 + c.toNat) ∧ t = 2 then jx_go CE B P stop k (i + 1) L (.inr (.inr (s.2.2.getD f.toNat (-1))) :: r) h else none
          | none => none
        | _, _ => none
      | .putfield _ => match st, e.2.2.2 with
        | .inr (.inr v) :: .inr (.inr z) :: r, [c, f, t] => match h.1[z.toNat]? with
          | some s => if (0 ≤ z ∧ s.1 = 10 + c.toNat) ∧ (0 ≤ v ∧ t = 2 ∧ f.toNat < s.2.2.length) then jx_go CE B P stop k (i + 1) L r (h.1.set z.toNat (s.1, s.2.1, s.2.2.set f.toNat v), h.2) else none
          | none => none
        | _, _ => none
      | .iastore => match st with
        | .inl v :: .inl j :: .inr (.inr z) :: r => match h.1[z.toNat]? with
          | some s => if (0 ≤ z ∧ s.1 = 0) ∧ (0 ≤ j ∧ j < s.2.1) then jx_go CE B P stop k (i + 1) L r (h.1, jm_uc h.2 z (jm_u1 (h.2 z) j v)) else none
          | none => none
        | _ => none
      | .aastore => match st with
        | .inr (.inr v) :: .inl j :: .inr (.inr z) :: r => match h.1[z.toNat]?, h.1[v.toNat]? with
          | some s, some q => if (0 ≤ z ∧ (0 ≤ v ∧ v ≤ 100000) ∧ ((s.1 = 2 ∧ q.1 = 15) ∨ (s.1 = 3 ∧ q.1 = 11) ∨ (s.1 = 4 ∧ q.1 = 14))) ∧ (0 ≤ j ∧ j < s.2.1) then jx_go CE B P stop k (i + 1) L r (h.1, jm_uc h.2 z (jm_u1 (h.2 z) j v)) else none
          | _, _ => none
        | _ => none
      | .newarray ty => match st, e.2.2.2 with
        | .inl n :: r, [q] => if ((q = 0 ∧ ty = .int) ∨ (q = 1 ∧ ty = .boolean)) ∧ (0 ≤ n ∧ n ≤ 100000) ∧ (h.1.length + 1 ≤ B.1 ∧ jm_tot h.1 + n.toNat ≤ B.2) then jx_go CE B P stop k (i + 1) L (.inr (.inr h.1.length) :: r) (h.1 ++ [(q.toNat, n.toNat, [])], jm_uc h.2 h.1.length (fun _ => 0)) else none
        | _, _ => none
      | .anewarray _ => match st, e.2.2.2 with
        | .inl n :: r, [q] => if (2 ≤ q ∧ q < 5) ∧ (0 ≤ n ∧ n ≤ 100000) ∧ (h.1.length + 1 ≤ B.1 ∧ jm_tot h.1 + n.toNat ≤ B.2) then jx_go CE B P stop k (i + 1) L (.inr (.inr h.1.length) :: r) (h.1 ++ [(q.toNat, n.toNat, [])], jm_uc h.2 h.1.length (fun _ => -1)) else none
        | _, _ => none
      | .new _ => match e.2.2.2 with
        | [c, n] => if h.1.length + 1 ≤ B.1 ∧ jm_tot h.1 + n.toNat ≤ B.2 then jx_go CE B P stop k (i + 1) L (.inr (.inr h.1.length) :: st) (h.1 ++ [(10 + c.toNat, n.toNat, List.replicate n.toNat (-1))], jm_uc h.2 h.1.length (fun _ => 0)) else none
        | _ => none
      | .invokespecial _ => match e.2.2.2 with
        | [n, mc, ms] => match st with
          | .inr (.inr z) :: r => if (0 ≤ z ∧ r.length ≤ 4) ∧ (h.1.length + mc.toNat ≤ B.1 ∧ jm_tot h.1 + ms.toNat ≤ B.2) then (match CE n.toNat [.inr (.inr z)] h with
            | some h2 => jx_go CE B P stop k (i + 1) L r h2
            | none => none) else none
          | _ => none
        | [] => match st with
          | .inr (.inr z) :: r => if 0 ≤ z ∧ r.length ≤ 4 then jx_go CE B P stop k (i + 1) L r h else none
          | _ => none
        | _ => none
      | .return_ => match st with
        | [] => some (false, L, [], h)
        | _ => none
      | _ => none
set_option maxHeartbeats 4000000 in
theorem jx_sound {X : jm_X} {C : jm_C} {Q : jm_Q} {CE : Nat → List jm_V → jm_H → Option jm_H} {B : Nat × Nat} {P : List jm_E} {stop : Nat} (hC : jm_mono C) (hCE : ∀ n vs h h2 (Q : jm_Q), CE n vs h = some h2 → Q [] h2 → C n vs h Q) :
    ∀ (k i : Nat) (L : jm_L) (st : List jm_V) (h : jm_H) (b : Bool) (L2 : jm_L) (st2 : List jm_V) (h2 : jm_H), jx_go CE B P stop k i L st h = some (b, L2, st2, h2) → (b = true → jm_WP X C B P Q stop L2 st2 h2) → (b = false → Q [] h2) → jm_WP X C B P Q i L st h := by
  intro k
  induction k with
  | zero => intro i L st h b L2 st2 h2 he; simp [jx_go] at he
  | succ k ih =>
    intro i L st h b L2 st2 h2 he k1 k2
    unfold jx_go at he
    split at he
    · rename_i hi
      cases he
      rw [hi]
      exact k1 rfl
    · cases hP : P[i]? with
      | none => rw [hP] at he; simp at he
      | some e =>
        rw [hP] at he
        refine jm_fold hC hP ?_
        obtain ⟨pc, ins, len, res⟩ := e
        dsimp only at he
        unfold jm_sem
        dsimp only
        cases ins <;> dsimp only at he ⊢
        case iconst => exact ih _ _ _ _ _ _ _ _ he k1 k2
        case bipush => exact ih _ _ _ _ _ _ _ _ he k1 k2
        case sipush => exact ih _ _ _ _ _ _ _ _ he k1 k2
        case iload_n =>
          split at he
          · rename_i z hz; try rw [hz]
            exact ih _ _ _ _ _ _ _ _ he k1 k2
          · cases he
        case aload_n =>
          split at he
          · rename_i z hz
            try rw [hz]
            split at he
            · rename_i hc; exact And.intro hc (ih _ _ _ _ _ _ _ _ he k1 k2)
            · cases he
          · cases he
        case istore_n =>
          split at he
          · exact ih _ _ _ _ _ _ _ _ he k1 k2
          · cases he
        case astore_n =>
          split at he
          · split at he
            · rename_i hc; exact And.intro hc (ih _ _ _ _ _ _ _ _ he k1 k2)
            · cases he
          · cases he
        case iinc =>
          split at he
          · rename_i z hz
            try rw [hz]
            split at he
            · rename_i hc; exact And.intro hc (ih _ _ _ _ _ _ _ _ he k1 k2)
            · cases he
          · cases he
        case dup =>
          split at he
          · exact ih _ _ _ _ _ _ _ _ he k1 k2
          · cases he
        case goto =>
          split at he
          · exact ih _ _ _ _ _ _ _ _ he k1 k2
          · cases he
        case if_icmp cd off =>
          cases cd <;> dsimp only at he ⊢ <;> try cases he
          split at he
          · split at he
            · rename_i hc; exact And.intro (fun _ => ih _ _ _ _ _ _ _ _ he k1 k2) (fun q => absurd hc q)
            · rename_i hc; exact And.intro (fun q => absurd q hc) (fun _ => ih _ _ _ _ _ _ _ _ he k1 k2)
          · cases he
        case getfield =>
          split at he
          · split at he
            · rename_i s hs
              split at he
              · rename_i hc
                try dsimp only
                try rw [hs]
                try dsimp only
                rw [if_pos hc.2]
                exact And.intro hc.1 (ih _ _ _ _ _ _ _ _ he k1 k2)
              · cases he
            · cases he
          · cases he
        case putfield =>
          split at he
          · split at he
            · rename_i s hs
              split at he
              · rename_i hc
                try dsimp only
                try rw [hs]
                exact And.intro hc.1 (And.intro hc.2 (ih _ _ _ _ _ _ _ _ he k1 k2))
              · cases he
            · cases he
          · cases he
        case iastore =>
          split at he
          · split at he
            · rename_i s hs
              split at he
              · rename_i hc
                try dsimp only
                try rw [hs]
                exact And.intro hc.1 (And.intro hc.2 (ih _ _ _ _ _ _ _ _ he k1 k2))
              · cases he
            · cases he
          · cases he
        case aastore =>
          split at he
          · split at he
            · rename_i s q hs hq
              split at he
              · rename_i hc
                try dsimp only
                try rw [hs, hq]
                exact And.intro hc.1 (And.intro hc.2 (ih _ _ _ _ _ _ _ _ he k1 k2))
              · cases he
            · cases he
          · cases he
        case newarray =>
          split at he
          · split at he
            · rename_i hc; exact And.intro hc.1 (And.intro hc.2.1 (And.intro hc.2.2 (ih _ _ _ _ _ _ _ _ he k1 k2)))
            · cases he
          · cases he
        case anewarray =>
          split at he
          · split at he
            · rename_i hc; exact And.intro hc.1 (And.intro hc.2.1 (And.intro hc.2.2 (ih _ _ _ _ _ _ _ _ he k1 k2)))
            · cases he
          · cases he
        case new =>
          split at he
          · split at he
            · rename_i hc; exact And.intro hc (ih _ _ _ _ _ _ _ _ he k1 k2)
            · cases he
          · cases he
        case invokespecial =>
          split at he
          · split at he
            · split at he
              · rename_i hc
                split at he
                · rename_i h9 hce
                  exact And.intro hc.1 (And.intro hc.2 (hCE _ _ _ _ _ hce (ih _ _ _ _ _ _ _ _ he k1 k2)))
                · cases he
              · cases he
            · cases he
          · split at he
            · split at he
              · rename_i hc; exact And.intro hc (ih _ _ _ _ _ _ _ _ he k1 k2)
              · cases he
            · cases he
          · cases he
        case return_ =>
          split at he
          · cases he; exact k2 rfl
          · cases he
        all_goals cases he
/-- a constructor, run -/
def jx_ce : Nat → Nat → List jm_V → jm_H → Option jm_H
  | 0, _, _, _ => none
  | d + 1, f, vs, h => if (jm_loc vs).length ≤ jm_ma f then (match jx_go (jx_ce d) (h.1.length + jm_mc f, jm_tot h.1 + jm_ms f) (jm_PP f) 1000000 2000 0 (jm_loc vs ++ List.replicate (jm_ma f - (jm_loc vs).length) none) [] h with
    | some (false, _, _, h2) => if h2.1.length = h.1.length + jm_mc f ∧ jm_tot h2.1 = jm_tot h.1 + jm_ms f then some h2 else none
    | _ => none) else none
theorem jx_ce_sound (X : jm_X) : ∀ (d n : Nat) (vs : List jm_V) (h h2 : jm_H) (Q : jm_Q), jx_ce d n vs h = some h2 → Q [] h2 → jm_CW X jm_PP d n vs h Q
  | 0, _, _, _, _, _, he, _ => by simp [jx_ce] at he
  | d + 1, n, vs, h, h2, Q, he, hq => by
    unfold jx_ce at he
    split at he
    · rename_i hl
      split at he
      · rename_i L2 st2 h9 hgo
        split at he
        · rename_i hal
          cases he
          exact ⟨hl, jx_sound (jm_CW_mono X jm_PP d) (fun n vs h h2 Q a b => jx_ce_sound X d n vs h h2 Q a b) _ _ _ _ _ _ _ _ _ hgo (fun q => by cases q) (fun _ => ⟨hal, hq⟩)⟩
        · cases he
      · cases he
    · cases he
