/-! what one instruction asks for is no more for a wider K -/
def jm_mono (C : jm_C) : Prop := ∀ (n : Nat) (a : List jm_V) (h : jm_H) (Q Q' : jm_Q), (∀ v h, Q v h → Q' v h) → C n a h Q → C n a h Q'
theorem jm_sw_mono {K K' : Nat → Prop} (hK : ∀ t, K t → K' t) (a : Int) : ∀ l : List Int, jm_sw K a l → jm_sw K' a l
  | [], h => h
  | [_], h => hK _ h
  | _ :: _ :: r, h => ⟨fun q => hK _ (h.1 q), fun q => jm_sw_mono hK a r (h.2 q)⟩
set_option maxHeartbeats 2000000 in
theorem jm_sem_mono {X : jm_X} {C : jm_C} {B : Nat × Nat} {Q : jm_Q} {K K' : jm_K} (hC : jm_mono C) (hK : ∀ i L st h, K i L st h → K' i L st h) (e : jm_E) (i : Nat) (L : jm_L) (st : List jm_V) (h : jm_H) :
    jm_sem X C B Q K e i L st h → jm_sem X C B Q K' e i L st h := by
  obtain ⟨pc, ins, len, res⟩ := e
  cases ins
  case tableswitch =>
    simp only [jm_sem]
    split
    · exact jm_sw_mono (fun t => hK t _ _ _) _ _
    · exact id
  case lookupswitch =>
    simp only [jm_sem]
    split
    · exact jm_sw_mono (fun t => hK t _ _ _) _ _
    · exact id
  case invokevirtual =>
    simp only [jm_sem]
    split
    · split
      · split
        · exact fun q => ⟨q.1, hC _ _ _ _ _ (fun v h => hK _ _ _ _) q.2⟩
        · exact id
      · exact id
    · exact id
  case invokestatic =>
    simp only [jm_sem]
    split
    · exact fun q => ⟨q.1, hC _ _ _ _ _ (fun v h => hK _ _ _ _) q.2⟩
    · split
      · exact fun q => ⟨q.1, hK _ _ _ _ q.2⟩
      · exact id
    · split
      · split
        · exact fun q => ⟨q.1, q.2.1, hK _ _ _ _ q.2.2⟩
        · exact id
      · exact id
    · exact id
  case invokespecial =>
    simp only [jm_sem]
    split
    · split
      · exact fun q => ⟨q.1, q.2.1, hC _ _ _ _ _ (fun v h => hK _ _ _ _) q.2.2⟩
      · exact id
    · split
      · exact fun q => ⟨q.1, hK _ _ _ _ q.2⟩
      · exact id
    · exact id
  case ifCond =>
    simp only [jm_sem]
    split
    · exact fun q => ⟨fun z => hK _ _ _ _ (q.1 z), fun z => hK _ _ _ _ (q.2 z)⟩
    · exact id
  case if_icmp =>
    simp only [jm_sem]
    split
    · exact fun q => ⟨fun z => hK _ _ _ _ (q.1 z), fun z => hK _ _ _ _ (q.2 z)⟩
    · exact id
  all_goals
    simp only [jm_sem]
    first
      | exact id
      | exact hK _ _ _ _
      | (split <;> first | exact id | exact hK _ _ _ _ | exact fun q => ⟨q.1, hK _ _ _ _ q.2⟩ | exact fun q => ⟨q.1, q.2.1, hK _ _ _ _ q.2.2⟩ | exact fun q => ⟨q.1, q.2.1, q.2.2.1, hK _ _ _ _ q.2.2.2⟩)
      | (split <;> first | exact id | (split <;> first | exact id | exact fun q => ⟨q.1, hK _ _ _ _ q.2⟩ | exact fun q => ⟨q.1, q.2.1, hK _ _ _ _ q.2.2⟩ | exact fun q => ⟨q.1, q.2.1, q.2.2.1, hK _ _ _ _ q.2.2.2⟩))
      | (split <;> first | exact id | (split <;> first | exact id | exact fun q => ⟨q.1, hK _ _ _ _ q.2⟩ | exact fun q => ⟨q.1, q.2.1, hK _ _ _ _ q.2.2⟩ | (split <;> first | exact id | exact fun q => ⟨q.1, q.2.1, hK _ _ _ _ q.2.2⟩)))
theorem jm_sem_Q {X : jm_X} {C : jm_C} {B : Nat × Nat} {Q Q' : jm_Q} {K : jm_K} (hQ : ∀ v h, Q v h → Q' v h) (e : jm_E) (i : Nat) (L : jm_L) (st : List jm_V) (h : jm_H) :
    jm_sem X C B Q K e i L st h → jm_sem X C B Q' K e i L st h := by
  obtain ⟨pc, ins, len, res⟩ := e
  cases ins
  case ireturn =>
    simp only [jm_sem]
    split
    · exact fun q => ⟨q.1, hQ _ _ q.2⟩
    · exact id
  case return_ =>
    simp only [jm_sem]
    split
    · exact hQ _ _
    · exact id
  all_goals exact id
theorem jm_WP_Q {X : jm_X} {C : jm_C} {B : Nat × Nat} {P : List jm_E} {Q Q' : jm_Q} (hQ : ∀ v h, Q v h → Q' v h) {i : Nat} {L : jm_L} {st : List jm_V} {h : jm_H} (k : jm_WP X C B P Q i L st h) : jm_WP X C B P Q' i L st h :=
  fun K hK => k K (fun i e L st h he q => hK i e L st h he (jm_sem_Q hQ e i L st h q))
theorem jm_fold {X : jm_X} {C : jm_C} {B : Nat × Nat} {P : List jm_E} {Q : jm_Q} (hC : jm_mono C) {i : Nat} {e : jm_E} {L : jm_L} {st : List jm_V} {h : jm_H} (he : P[i]? = some e)
    (k : jm_sem X C B Q (jm_WP X C B P Q) e i L st h) : jm_WP X C B P Q i L st h :=
  fun K hK => hK i e L st h he (jm_sem_mono hC (fun i L st h q => q K hK) e i L st h k)
/-! numbers -/
theorem jm_ti {z : Int} (h : jm_r z) : (Int32.ofInt z).toInt = z := Int32.toInt_ofInt_of_le (by have := h.1; omega) (by have := h.2; omega)
theorem jm_tl {z : Int} (h : jm_rl z) : (Int64.ofInt z).toInt = z := Int64.toInt_ofInt_of_le (by have := h.1; omega) (by have := h.2; omega)
theorem jm_lt {a b : Int} (ha : jm_r a) (hb : jm_r b) : Int32.ofInt a < Int32.ofInt b ↔ a < b := by rw [Int32.lt_iff_toInt_lt, jm_ti ha, jm_ti hb]
theorem jm_le {a b : Int} (ha : jm_r a) (hb : jm_r b) : Int32.ofInt a ≤ Int32.ofInt b ↔ a ≤ b := by rw [Int32.le_iff_toInt_le, jm_ti ha, jm_ti hb]
theorem jm_eq {a b : Int} (ha : jm_r a) (hb : jm_r b) : Int32.ofInt a = Int32.ofInt b ↔ a = b := by rw [← Int32.toInt_inj, jm_ti ha, jm_ti hb]
theorem jm_r0 : jm_r 0 := ⟨by decide, by decide⟩
theorem jm_rI (x : Int32) : jm_r x.toInt := by
  have h1 := x.le_toInt
  have h2 := x.toInt_lt
  exact ⟨by omega, by omega⟩
theorem jm_nn {z : Int} (h : jm_r z) : (Int32.ofInt z).toNatClampNeg = z.toNat := Int32.toNatClampNeg_ofInt_of_le (by have := h.1; omega) (by have := h.2; omega)
theorem jm_n0 {z : Int} (h : jm_r z) (h0 : 0 ≤ z) : ¬ Int32.ofInt z < 0 := by
  intro q
  have h2 := (jm_lt h jm_r0).mp q
  omega
theorem jm_vin {z : Int} {n : Nat} (h : jm_r z) (h0 : 0 ≤ z) (h1 : z < n) : vp_in (Int32.ofInt z) n := by
  intro q
  rcases q with q | q
  · exact jm_n0 h h0 q
  · rw [jm_nn h] at q
    omega
theorem jm_div {a b : Int} (ha : jm_r a) (hb : jm_r b) (h0 : 0 ≤ a) (h1 : 0 < b) : Int32.ofInt a / Int32.ofInt b = Int32.ofInt (a / b) := by
  have h2 : 0 ≤ a / b := Int.ediv_nonneg h0 (by omega)
  have h3 : a / b ≤ a := Int.ediv_le_self b h0
  have hr : jm_r (a / b) := ⟨by omega, by have := ha.2; omega⟩
  rw [← Int32.toInt_inj, lg_idiv_nonneg (by rw [jm_ti ha]; exact h0) (by rw [jm_ti hb]; exact h1), jm_ti ha, jm_ti hb, jm_ti hr]
theorem jm_rdiv {a b : Int} (ha : jm_r a) (h0 : 0 ≤ a) (h1 : 0 < b) : jm_r (a / b) := by
  have h2 : 0 ≤ a / b := Int.ediv_nonneg h0 (by omega)
  have h3 : a / b ≤ a := Int.ediv_le_self b h0
  exact ⟨by omega, by have := ha.2; omega⟩
theorem jm_rmod {a b : Int} (hb : jm_r b) (h1 : 0 < b) : jm_r (a % b) := by
  have h2 : 0 ≤ a % b := Int.emod_nonneg a (by omega)
  have h3 : a % b < b := Int.emod_lt_of_pos a h1
  exact ⟨by omega, by have := hb.2; omega⟩
theorem jm_mod {a b : Int} (ha : jm_r a) (hb : jm_r b) (h0 : 0 ≤ a) (h1 : 0 < b) : Int32.ofInt a - Int32.ofInt a / Int32.ofInt b * Int32.ofInt b = Int32.ofInt (a % b) := by
  rw [← Int32.toInt_inj, rem_toInt, jm_ti ha, jm_ti hb, jm_ti (jm_rmod hb h1), Int.tmod_eq_emod_of_nonneg h0]
theorem jm_rlmod {a b : Int} (hb : jm_rl b) (h1 : 0 < b) : jm_rl (a % b) := by
  have h2 : 0 ≤ a % b := Int.emod_nonneg a (by omega)
  have h3 : a % b < b := Int.emod_lt_of_pos a h1
  exact ⟨by omega, by have := hb.2; omega⟩
theorem jm_rldiv {a b : Int} (ha : jm_rl a) (h0 : 0 ≤ a) (h1 : 0 < b) : jm_rl (a / b) := by
  have h2 : 0 ≤ a / b := Int.ediv_nonneg h0 (by omega)
  have h3 : a / b ≤ a := Int.ediv_le_self b h0
  exact ⟨by omega, by have := ha.2; omega⟩
theorem jm_lmod {a b : Int} (ha : jm_rl a) (hb : jm_rl b) (h0 : 0 ≤ a) (h1 : 0 < b) : Int64.ofInt a - Int64.ofInt a / Int64.ofInt b * Int64.ofInt b = Int64.ofInt (a % b) := by
  have e1 : Int64.ofInt a / Int64.ofInt b = Int64.ofInt (a / b) := by
    rw [← Int64.toInt_inj, lg_ldiv_nonneg (by rw [jm_tl ha]; exact h0) (by rw [jm_tl hb]; exact h1), jm_tl ha, jm_tl hb, jm_tl (jm_rldiv ha h0 h1)]
  rw [e1, ← Int64.ofInt_mul, ← Int64.ofInt_sub]
  congr 1
  have := Int.emod_add_mul_ediv a b
  rw [Int.mul_comm] at this
  omega
theorem jm_b {a : Int} (h : jm_r a) : (Int32.ofInt a).toInt8.toInt32 = Int32.ofInt (a.bmod 256) := by
  have h1 := lg_i2b_range (Int32.ofInt a)
  have h2 := lg_i2b_toInt (Int32.ofInt a)
  rw [jm_ti h] at h2
  rw [show (2 : Nat) ^ 8 = 256 from rfl] at h2
  rw [← Int32.toInt_inj, jm_ti ⟨by rw [← h2]; omega, by rw [← h2]; omega⟩, h2]
theorem jm_rb (a : Int) : jm_r (a.bmod 256) := by
  have h1 := @Int.le_bmod a 256 (by decide)
  have h2 := @Int.bmod_lt a 256 (by decide)
  exact ⟨by omega, by omega⟩
theorem jm_s {a : Int} (h : jm_r a) : (Int32.ofInt a).toInt16.toInt32 = Int32.ofInt (a.bmod 65536) := by
  have h1 := lg_i2s_range (Int32.ofInt a)
  have h2 := lg_i2s_toInt (Int32.ofInt a)
  rw [jm_ti h] at h2
  rw [show (2 : Nat) ^ 16 = 65536 from rfl] at h2
  rw [← Int32.toInt_inj, jm_ti ⟨by rw [← h2]; omega, by rw [← h2]; omega⟩, h2]
theorem jm_rs (a : Int) : jm_r (a.bmod 65536) := by
  have h1 := @Int.le_bmod a 65536 (by decide)
  have h2 := @Int.bmod_lt a 65536 (by decide)
  exact ⟨by omega, by omega⟩
theorem jm_i2l {a : Int} (h : jm_r a) : (Int32.ofInt a).toInt64 = Int64.ofInt a := by
  rw [← Int64.toInt_inj, Int32.toInt_toInt64, jm_ti h, jm_tl ⟨by have := h.1; omega, by have := h.2; omega⟩]
theorem jm_lc {a b : Int} (ha : jm_rl a) (hb : jm_rl b) : lg_cmp (Int64.ofInt a) (Int64.ofInt b) = Int32.ofInt (if a < b then -1 else if a = b then 0 else 1) := by
  unfold lg_cmp
  simp only [gt_iff_lt, Int64.lt_iff_toInt_lt, ← Int64.toInt_inj, jm_tl ha, jm_tl hb]
  by_cases h1 : a < b
  · have h2 : ¬ b < a := by omega
    have h3 : ¬ a = b := by omega
    rw [if_neg h2, if_neg h3, if_pos h1]; rfl
  · rw [if_neg h1]
    by_cases h3 : a = b
    · have h2 : ¬ b < a := by omega
      rw [if_neg h2, if_pos h3, if_pos h3]; rfl
    · have h2 : b < a := by omega
      rw [if_pos h2, if_neg h3]; rfl
theorem jm_rc (a b : Int) : jm_r (if a < b then -1 else if a = b then 0 else 1) := by
  split
  · exact ⟨by decide, by decide⟩
  · split <;> exact ⟨by decide, by decide⟩
