/-! how the small machine's cells and values stand in the real heap -/
def jm_ro (ba : Nat) (ex : Nat → Nat) (z : Int) : Option Nat := if 0 ≤ z then some (ba + z.toNat) else if z = -1 then none else some (ex (-2 - z).toNat)
def jm_rv (ba : Nat) (ex : Nat → Nat) : jm_V → Value
  | .inl z => .int (Int32.ofInt z)
  | .inr (.inl z) => .long (Int64.ofInt z)
  | .inr (.inr z) => va_rf (jm_ro ba ex z)
def jm_ok : jm_V → Prop
  | .inl z => jm_r z
  | .inr (.inl z) => jm_rl z
  | .inr (.inr _) => True
theorem jm_rv_own {ba : Nat} {ex : Nat → Nat} {z : Int} (h : 0 ≤ z) : jm_rv ba ex (.inr (.inr z)) = .ref (ba + z.toNat) := by simp [jm_rv, jm_ro, h, va_rf]
theorem jm_rv_ext {ba : Nat} {ex : Nat → Nat} {z : Int} (h : z ≤ -2) : jm_rv ba ex (.inr (.inr z)) = .ref (ex (-2 - z).toNat) := by
  have h1 : ¬ 0 ≤ z := by omega
  have h2 : ¬ z = -1 := by omega
  simp [jm_rv, jm_ro, h1, h2, va_rf]
theorem jm_rv_ref {ba : Nat} {ex : Nat → Nat} {z : Int} (h : ¬ z = -1) : ∃ x, jm_rv ba ex (.inr (.inr z)) = .ref x := by
  by_cases h0 : 0 ≤ z
  · exact ⟨_, jm_rv_own h0⟩
  · exact ⟨_, jm_rv_ext (by omega)⟩
theorem jm_rv_cat (ba : Nat) (ex : Nat → Nat) (v : jm_V) : (jm_rv ba ex v).category ≤ 2 := by
  rcases lv_cat (jm_rv ba ex v) with h | h <;> omega
theorem jm_ref_cat (ba : Nat) (ex : Nat → Nat) (z : Int) : (jm_rv ba ex (.inr (.inr z))).category = 1 := by
  show (va_rf (jm_ro ba ex z)).category = 1
  cases jm_ro ba ex z <;> rfl
theorem jm_cat4 (ba : Nat) (ex : Nat → Nat) (r : List jm_V) (h : r.length ≤ 4) : ((r.map (jm_rv ba ex)).map fun v => v.category).sum ≤ 8 := by
  have key : ∀ r : List jm_V, ((r.map (jm_rv ba ex)).map fun v => v.category).sum ≤ 2 * r.length := by
    intro r
    induction r with
    | nil => simp
    | cons a l ih =>
      have := jm_rv_cat ba ex a
      simp only [List.map_cons, List.sum_cons, List.length_cons]
      omega
  have := key r
  omega
/-- the fields of an object of class c -/
def jm_fs (ba : Nat) (ex : Nat → Nat) (c i : Nat) (rf : List Int) (μ : jm_M) : List Value := (List.range (jm_N c)).map (fun k => if jm_fty c k = 2 then va_rf (jm_ro ba ex (rf.getD k (-1))) else .int (Int32.ofInt (μ i k)))
def jm_ent (aC : Nat → ClassId) (ba : Nat) (ex : Nat → Nat) (i : Nat) (s : jm_S) (μ : jm_M) : va_E :=
  if s.1 < 2 then .inl (aC s.1, (s.2.1, .inl (fun j => Int32.ofInt (μ i j))))
  else if s.1 < 10 then .inl (aC s.1, (s.2.1, .inr (.inr (.inr (.inr (fun j => jm_ro ba ex (μ i j)))))))
  else .inr (s.1 - 10, jm_fs ba ex (s.1 - 10) i s.2.2 μ)
def jm_ws (aC : Nat → ClassId) (ba : Nat) (ex : Nat → Nat) (h : jm_H) : va_W := (List.range h.1.length).map (fun i => (ba + i, jm_ent aC ba ex i (h.1.getD i (0, 0, [])) h.2))
theorem jm_ws_len (aC : Nat → ClassId) (ba : Nat) (ex : Nat → Nat) (h : jm_H) : (jm_ws aC ba ex h).length = h.1.length := by simp [jm_ws]
theorem jm_ws_at {aC : Nat → ClassId} {ba : Nat} {ex : Nat → Nat} {h : jm_H} {i : Nat} {s : jm_S} (hs : h.1[i]? = some s) : (jm_ws aC ba ex h)[i]? = some (ba + i, jm_ent aC ba ex i s h.2) := by
  obtain ⟨hi, rfl⟩ := List.getElem?_eq_some_iff.mp hs
  simp [jm_ws, hi]
theorem jm_ws_inv {aC : Nat → ClassId} {ba : Nat} {ex : Nat → Nat} {h : jm_H} {i : Nat} {q : Nat × va_E} (hq : (jm_ws aC ba ex h)[i]? = some q) : ∃ s, h.1[i]? = some s ∧ q = (ba + i, jm_ent aC ba ex i s h.2) := by
  have hi : i < h.1.length := by
    have := (List.getElem?_eq_some_iff.mp hq).1
    rw [jm_ws_len] at this
    exact this
  have hs : h.1[i]? = some h.1[i] := List.getElem?_eq_getElem hi
  rw [jm_ws_at hs] at hq
  exact ⟨_, hs, (Option.some.inj hq).symm⟩
theorem jm_ws_D (aC : Nat → ClassId) (ba : Nat) (ex : Nat → Nat) (h : jm_H) : va_D (fun q => ba ≤ q) (jm_ws aC ba ex h) := by
  refine ⟨fun i j p q hp hq hpq => ?_, fun k q hq => ?_⟩
  · obtain ⟨_, -, rfl⟩ := jm_ws_inv hp
    obtain ⟨_, -, rfl⟩ := jm_ws_inv hq
    have h1 : ba + i = ba + j := hpq
    omega
  · obtain ⟨_, -, rfl⟩ := jm_ws_inv hq
    exact Nat.le_add_right ba k
/-- one cell is written -/
theorem jm_ws_set {aC : Nat → ClassId} {ba : Nat} {ex : Nat → Nat} {h h' : jm_H} {i : Nat} {e : va_E} {s' : jm_S} (hl : h'.1.length = h.1.length) (hs : h'.1[i]? = some s') (he : e = jm_ent aC ba ex i s' h'.2) (ho : ∀ j, j ≠ i → h'.1[j]? = h.1[j]? ∧ h'.2 j = h.2 j) :
    (jm_ws aC ba ex h).set i (ba + i, e) = jm_ws aC ba ex h' := by
  apply List.ext_getElem?
  intro j
  by_cases hj : j = i
  · subst hj
    have hlt : j < (jm_ws aC ba ex h).length := by
      rw [jm_ws_len, ← hl]
      exact (List.getElem?_eq_some_iff.mp hs).1
    rw [List.getElem?_set_self hlt, jm_ws_at hs, he]
  · rw [List.getElem?_set_ne (Ne.symm hj)]
    obtain ⟨o1, o2⟩ := ho j hj
    cases hc : h.1[j]? with
    | some s =>
      rw [jm_ws_at hc, jm_ws_at (o1.trans hc)]
      simp only [jm_ent, jm_fs, o2]
    | none =>
      have h1 : h.1.length ≤ j := by simpa using hc
      rw [List.getElem?_eq_none (by rw [jm_ws_len]; exact h1), List.getElem?_eq_none (by rw [jm_ws_len, hl]; exact h1)]
/-- a cell is made -/
theorem jm_ws_new {aC : Nat → ClassId} {ba : Nat} {ex : Nat → Nat} {h : jm_H} {s' : jm_S} {f : Int → Int} : jm_ws aC ba ex h ++ [(ba + h.1.length, jm_ent aC ba ex h.1.length s' (jm_uc h.2 h.1.length f))] = jm_ws aC ba ex (h.1 ++ [s'], jm_uc h.2 h.1.length f) := by
  apply List.ext_getElem?
  intro j
  by_cases hj : j < h.1.length
  · have hc : h.1[j]? = some h.1[j] := List.getElem?_eq_getElem hj
    rw [List.getElem?_append_left (by rw [jm_ws_len]; exact hj), jm_ws_at hc, jm_ws_at (h := (h.1 ++ [s'], jm_uc h.2 h.1.length f)) (s := h.1[j]) (by rw [List.getElem?_append_left hj]; exact hc)]
    have hne : ¬ (j : Int) = (h.1.length : Int) := by omega
    simp only [jm_ent, jm_fs, jm_uc, if_neg hne]
  · rw [List.getElem?_append_right (by rw [jm_ws_len]; omega), jm_ws_len]
    by_cases he : j = h.1.length
    · subst he
      rw [Nat.sub_self, jm_ws_at (h := (h.1 ++ [s'], jm_uc h.2 h.1.length f)) (s := s') (by simp)]
      rfl
    · rw [List.getElem?_eq_none (by simp; omega), List.getElem?_eq_none (by rw [jm_ws_len]; simp; omega)]
def jm_tys (aC : Nat → ClassId) : List (ClassId × FieldType) := [(aC 0, .int), (aC 1, .boolean), (aC 2, .object "MatNations$Mat"), (aC 3, .object "MatNations$Comer"), (aC 4, .object "MatNations$House")]
/-- what the tables say, and which number is which class's -/
def jm_Env (D : va_G) (aC : Nat → ClassId) (U : State) : Prop :=
  (∀ w ∈ lw_tbl, goodWord w = true → ∀ a, w.before a U = true) ∧ (∀ q ∈ jm_nl, va_Nw (jm_nlw q) U) ∧ (va_AO "MatNations$Mat" U ∧ va_AO "MatNations$Comer" U ∧ va_AO "MatNations$House" U) ∧ va_K D vwCl (jm_tys aC) U
theorem jm_Env.warm {D : va_G} {aC : Nat → ClassId} {s U : State} (h : jm_Env D aC s) (hW : s.WarmedH U.vm) : jm_Env D aC U := by
  obtain ⟨h1, h2, ⟨h3, h4, h5⟩, h6⟩ := h
  exact ⟨fun w hw hg a => word_at hW (good_of_word hg) (h1 w hw hg #[]), fun q hq => va_Nw.warmM hW (h2 q hq), ⟨h3.moved hW.alike, h4.moved hW.alike, h5.moved hW.alike⟩, h6.moved hW.alike⟩
/-- the arrays of the start: the script, and the tables of the classes -/
def jm_Ext (ba : Nat) (ex : Nat → Nat) (X : jm_X) (U : State) (H : Heap) : Prop :=
  (∀ k, k < 6 → va_T .int (ex k) (X k).1 (fun j => .int (Int32.ofInt ((X k).2 j))) (fun q => ba ≤ q) U H ∧ (X k).1 < 2147483648 ∧ ∀ j, jm_r ((X k).2 j)) ∧
  ∀ k q, jm_sf[k]? = some q → va_Z q.1 q.2.1 q.2.2 (.ref (ex (k + 1))) (fun q => ba ≤ q) U H
theorem jm_Ext.move {ba : Nat} {ex : Nat → Nat} {X : jm_X} {s U : State} {H H1 : Heap} (h : jm_Ext ba ex X s H) (hv : s.vm.Alike U.vm) (hk : ∀ a : Nat, a < H.size → ¬ (fun q => ba ≤ q) a → H1[a]? = H[a]?) : jm_Ext ba ex X U H1 :=
  ⟨fun k hk6 => ⟨((h.1 k hk6).1.moved hv).kept hk, (h.1 k hk6).2⟩, fun k q hq => ((h.2 k q hq).moved hv).kept hk⟩
def jm_Hp (D : va_G) (aC : Nat → ClassId) (ba : Nat) (ex : Nat → Nat) (h : jm_H) (H : Heap) : Prop := va_P D vwCl (jm_ws aC ba ex h) H ∧ H.size = ba + h.1.length ∧ ∀ i j, jm_r (h.2 i j)
/-- the locals -/
def jm_LR (ba : Nat) (ex : Nat → Nat) (ls : Array Slot) (nL : Nat) (L : jm_L) : Prop := ls.size = nL ∧ lv_wf ls ∧ ∀ (k : Nat) (v : jm_V), L[k]? = some (some v) → ls[k]? = some (.val (jm_rv ba ex v)) ∧ jm_ok v
def jm_as (ba : Nat) (ex : Nat → Nat) (L : jm_L) : List (Nat × Value) := (List.range L.length).filterMap (fun k => match L[k]? with | some (some v) => some (k, jm_rv ba ex v) | _ => none)
theorem jm_as_mem {ba : Nat} {ex : Nat → Nat} {L : jm_L} {q : Nat × Value} : q ∈ jm_as ba ex L ↔ ∃ v, L[q.1]? = some (some v) ∧ q.2 = jm_rv ba ex v := by
  unfold jm_as
  rw [List.mem_filterMap]
  constructor
  · rintro ⟨k, -, hk⟩
    split at hk
    · rename_i v hv
      cases hk
      exact ⟨v, hv, rfl⟩
    · cases hk
  · rintro ⟨v, hv, hq⟩
    refine ⟨q.1, List.mem_range.mpr (List.getElem?_eq_some_iff.mp hv).1, ?_⟩
    rw [hv]
    show some (q.1, jm_rv ba ex v) = some q
    rw [← hq]
theorem jm_LR.has {ba : Nat} {ex : Nat → Nat} {ls : Array Slot} {nL : Nat} {L : jm_L} (h : jm_LR ba ex ls nL L) : lv_has ls nL (jm_as ba ex L) := by
  refine ⟨h.1, h.2.1, fun q hq => ?_⟩
  obtain ⟨v, hv, e⟩ := jm_as_mem.mp hq
  rw [e]
  exact (h.2.2 q.1 v hv).1
theorem jm_set_get : ∀ (L : jm_L) (i : Nat) (v : jm_V) (k : Nat) (w : jm_V), (jm_set L i v)[k]? = some (some w) → (k = i ∧ w = v) ∨ (k ≠ i ∧ L[k]? = some (some w) ∧ ¬ (k + 1 = i ∧ ∃ z, w = .inr (.inl z)))
  | [], i, v, k, w, h => by simp [jm_set] at h
  | o :: r, 0, v, k, w, h => by
    cases k with
    | zero => left; simp [jm_set] at h; exact ⟨rfl, h.symm⟩
    | succ k => right; simp only [jm_set, List.getElem?_cons_succ] at h; exact ⟨by omega, by simpa using h, by omega⟩
  | o :: r, 1, v, k, w, h => by
    cases k with
    | zero =>
      right
      simp only [jm_set, List.getElem?_cons_zero] at h
      refine ⟨by omega, ?_, ?_⟩
      · split at h
        · cases h
        · simpa using h
      · rintro ⟨-, z, rfl⟩
        split at h
        · cases h
        · rename_i hn
          cases Option.some.inj h
          exact hn z rfl
    | succ k =>
      simp only [jm_set, List.getElem?_cons_succ] at h
      rcases jm_set_get r 0 v k w h with ⟨a, b⟩ | ⟨a, b, c⟩
      · left; exact ⟨by omega, b⟩
      · right; exact ⟨by omega, by simpa using b, by omega⟩
  | o :: r, i + 2, v, k, w, h => by
    cases k with
    | zero => right; simp only [jm_set, List.getElem?_cons_zero] at h; exact ⟨by omega, by simpa using h, by omega⟩
    | succ k =>
      simp only [jm_set, List.getElem?_cons_succ] at h
      rcases jm_set_get r (i + 1) v k w h with ⟨a, b⟩ | ⟨a, b, c⟩
      · left; exact ⟨by omega, b⟩
      · right; exact ⟨by omega, by simpa using b, fun q => c ⟨by omega, q.2⟩⟩
theorem jm_cat2 {ba : Nat} {ex : Nat → Nat} {v : jm_V} (h : (jm_rv ba ex v).category = 2) : ∃ z, v = .inr (.inl z) := by
  rcases v with z | z | z
  · cases h
  · exact ⟨z, rfl⟩
  · rw [jm_ref_cat] at h
    cases h
theorem jm_LR.store {ba : Nat} {ex : Nat → Nat} {ls' : Array Slot} {nL i : Nat} {L : jm_L} {v : jm_V} (hv : jm_ok v) (hL : ∀ (k : Nat) (v : jm_V), L[k]? = some (some v) → jm_ok v)
    (h : lv_has ls' nL ((i, jm_rv ba ex v) :: (jm_as ba ex L).filter (fun q => !(q.1 == i) && !(q.1 + 1 == i && q.2.category == 2)))) : jm_LR ba ex ls' nL (jm_set L i v) := by
  refine ⟨h.1, h.2.1, fun k w hw => ?_⟩
  rcases jm_set_get L i v k w hw with ⟨rfl, rfl⟩ | ⟨a, b, c⟩
  · exact ⟨h.2.2 (k, jm_rv ba ex w) List.mem_cons_self, hv⟩
  · refine ⟨h.2.2 (k, jm_rv ba ex w) (List.mem_cons_of_mem _ (List.mem_filter.mpr ⟨jm_as_mem.mpr ⟨w, b, rfl⟩, ?_⟩)), hL k w b⟩
    simp only [Bool.and_eq_true, Bool.not_eq_true', beq_eq_false_iff_ne, ne_eq, Bool.and_eq_false_iff]
    refine ⟨a, ?_⟩
    by_cases hk : k + 1 = i
    · exact Or.inr fun q => c ⟨hk, jm_cat2 q⟩
    · exact Or.inl hk
theorem jm_LR.store2 {ba : Nat} {ex : Nat → Nat} {ls' : Array Slot} {nL i : Nat} {L : jm_L} {v : jm_V} (hv : jm_ok v) (hL : ∀ (k : Nat) (v : jm_V), L[k]? = some (some v) → jm_ok v)
    (h : lv_has ls' nL ((i, jm_rv ba ex v) :: (jm_as ba ex L).filter (fun q => !(q.1 == i) && (!(q.1 == i + 1) && !(q.1 + 1 == i && q.2.category == 2))))) : jm_LR ba ex ls' nL (jm_set2 L i v) := by
  refine ⟨h.1, h.2.1, fun k w hw => ?_⟩
  unfold jm_set2 at hw
  have hk1 : k ≠ i + 1 := by
    intro q
    subst q
    by_cases hlt : i + 1 < (jm_set L i v).length
    · rw [List.getElem?_set_self hlt] at hw; cases hw
    · rw [List.getElem?_eq_none (by simp; omega)] at hw; cases hw
  rw [List.getElem?_set_ne (Ne.symm hk1)] at hw
  rcases jm_set_get L i v k w hw with ⟨rfl, rfl⟩ | ⟨a, b, c⟩
  · exact ⟨h.2.2 (k, jm_rv ba ex w) List.mem_cons_self, hv⟩
  · refine ⟨h.2.2 (k, jm_rv ba ex w) (List.mem_cons_of_mem _ (List.mem_filter.mpr ⟨jm_as_mem.mpr ⟨w, b, rfl⟩, ?_⟩)), hL k w b⟩
    simp only [Bool.and_eq_true, Bool.not_eq_true', beq_eq_false_iff_ne, ne_eq, Bool.and_eq_false_iff]
    refine ⟨a, hk1, ?_⟩
    by_cases hk : k + 1 = i
    · exact Or.inr fun q => c ⟨hk, jm_cat2 q⟩
    · exact Or.inl hk
theorem jm_loc_entry (ba : Nat) (ex : Nat → Nat) : ∀ (vs : List jm_V) (n k : Nat) (v : jm_V), (jm_loc vs)[k]? = some (some v) → (n + k, jm_rv ba ex v) ∈ lv_args n (vs.map (jm_rv ba ex)) ∧ v ∈ vs
  | [], n, k, v, h => by simp [jm_loc] at h
  | .inl z :: r, n, k, v, h => by
    cases k with
    | zero => simp [jm_loc] at h; subst h; exact ⟨by simp [lv_args, jm_rv], by simp⟩
    | succ k =>
      simp only [jm_loc, List.getElem?_cons_succ] at h
      obtain ⟨a, b⟩ := jm_loc_entry ba ex r (n + 1) k v h
      refine ⟨?_, List.mem_cons_of_mem _ b⟩
      have e : n + (k + 1) = n + 1 + k := by omega
      rw [e]
      simp only [List.map_cons, lv_args, jm_rv, Value.category]
      exact List.mem_cons_of_mem _ a
  | .inr (.inl z) :: r, n, k, v, h => by
    match k, h with
    | 0, h => simp [jm_loc] at h; subst h; exact ⟨by simp [lv_args, jm_rv], by simp⟩
    | 1, h => simp [jm_loc] at h
    | k + 2, h =>
      simp only [jm_loc, List.getElem?_cons_succ] at h
      obtain ⟨a, b⟩ := jm_loc_entry ba ex r (n + 2) k v h
      refine ⟨?_, List.mem_cons_of_mem _ b⟩
      have e : n + (k + 2) = n + 2 + k := by omega
      rw [e]
      simp only [List.map_cons, lv_args, jm_rv, Value.category]
      exact List.mem_cons_of_mem _ a
  | .inr (.inr z) :: r, n, k, v, h => by
    cases k with
    | zero => simp [jm_loc] at h; subst h; exact ⟨by simp [lv_args], by simp⟩
    | succ k =>
      simp only [jm_loc, List.getElem?_cons_succ] at h
      obtain ⟨a, b⟩ := jm_loc_entry ba ex r (n + 1) k v h
      refine ⟨?_, List.mem_cons_of_mem _ b⟩
      have e : n + (k + 1) = n + 1 + k := by omega
      rw [e]
      have hc := jm_ref_cat ba ex z
      simp only [List.map_cons, lv_args, hc]
      exact List.mem_cons_of_mem _ a
theorem jm_sl_cons (v : Value) (r : List Value) : lg_sl (v :: r) = (if v.category = 2 then [.val v, .second] else [.val v]) ++ lg_sl r := by simp [lg_sl]
theorem jm_loc_len (ba : Nat) (ex : Nat → Nat) : ∀ vs : List jm_V, (lg_sl (vs.map (jm_rv ba ex))).length = (jm_loc vs).length
  | [] => rfl
  | .inl z :: r => by
    have := jm_loc_len ba ex r
    rw [List.map_cons, jm_sl_cons, List.length_append, this, if_neg (by simp [jm_rv, Value.category])]
    simp only [jm_loc, List.length_cons, List.length_nil]
    omega
  | .inr (.inl z) :: r => by
    have := jm_loc_len ba ex r
    rw [List.map_cons, jm_sl_cons, List.length_append, this, if_pos (by simp [jm_rv, Value.category])]
    simp only [jm_loc, List.length_cons, List.length_nil]
    omega
  | .inr (.inr z) :: r => by
    have := jm_loc_len ba ex r
    have hc := jm_ref_cat ba ex z
    rw [List.map_cons, jm_sl_cons, List.length_append, this, if_neg (by rw [hc]; decide)]
    simp only [jm_loc, List.length_cons, List.length_nil]
    omega
