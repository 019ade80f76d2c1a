/-! how likely it is -/
def jwt (b : Int → Bool) (c : Int) : Nat → Int
  | 0 => 1
  | k + 1 => jwt b c k * (if b k then 10 - c else c)
def jsum (F : Int → Int) : Nat → Int
  | 0 => 0
  | k + 1 => jsum F k + F k
def jeu : Nat → Int → Int → Int
  | 0, y, _ => y
  | k + 1, y, z => if z = 0 then y else jeu k z (y % z)
def jpb (p : Int) : Int → Bool := fun k => decide (p.toNat / 2 ^ k.toNat % 2 = 1)
def jnb (p : Int) : Int → Bool := fun k => !decide (p.toNat / 2 ^ k.toNat % 2 = 1)
theorem jb_bit2 {v k : Int} (v0 : 0 ≤ v) (v1 : v < 64) (k0 : 0 ≤ k) (k1 : k < 6) : jm_and (jm_shr v k) 1 = ((v.toNat / 2 ^ k.toNat % 2 : Nat) : Int) := by
  obtain ⟨n, rfl⟩ := Int.eq_ofNat_of_zero_le v0
  obtain ⟨m, rfl⟩ := Int.eq_ofNat_of_zero_le k0
  exact jb_bitv ⟨n, by omega⟩ ⟨m, by omega⟩
theorem jpb_iff {v k : Int} (v0 : 0 ≤ v) (v1 : v < 64) (k0 : 0 ≤ k) (k1 : k < 6) : jpb v k = true ↔ jm_and (jm_shr v k) 1 = 1 := by
  rw [jb_bit2 v0 v1 k0 k1]
  unfold jpb
  rw [decide_eq_true_iff]
  omega
theorem jnb_iff {v k : Int} (v0 : 0 ≤ v) (v1 : v < 64) (k0 : 0 ≤ k) (k1 : k < 6) : jnb v k = true ↔ ¬ jm_and (jm_shr v k) 1 = 1 := by
  rw [jb_bit2 v0 v1 k0 k1]
  unfold jnb
  rw [Bool.not_eq_true', decide_eq_false_iff_not]
  omega
theorem jpn_v : ∀ n : Fin 7, ∀ p : Fin 64, ∀ k : Fin 6, p.val < 2 ^ n.val → k.val < n.val → jpb (((2 ^ n.val : Nat) : Int) - 1 - (p.val : Int)) (k.val : Int) = jnb (p.val : Int) (k.val : Int) := by decide +kernel
theorem jw10_v : ∀ n : Fin 7, ∀ c : Fin 11, jsum (fun a => jwt (jnb a) (c.val : Int) n.val) (2 ^ n.val) = (10 : Int) ^ n.val := by decide +kernel
theorem jc_cong {b b' : Int → Bool} {T : Int → Int} : ∀ k : Nat, (∀ x : Nat, x < k → b x = b' x) → jc b T k = jc b' T k
  | 0, _ => rfl
  | k + 1, h => by
    simp only [jc]
    rw [h k (by omega), jc_cong k (fun x q => h x (by omega))]
theorem jwt_cong {b b' : Int → Bool} {c : Int} : ∀ k : Nat, (∀ x : Nat, x < k → b x = b' x) → jwt b c k = jwt b' c k
  | 0, _ => rfl
  | k + 1, h => by
    simp only [jwt]
    rw [h k (by omega), jwt_cong k (fun x q => h x (by omega))]
theorem jsum_cong {F G : Int → Int} : ∀ k : Nat, (∀ x : Nat, x < k → F x = G x) → jsum F k = jsum G k
  | 0, _ => rfl
  | k + 1, h => by
    simp only [jsum]
    rw [h k (by omega), jsum_cong k (fun x q => h x (by omega))]
theorem jsum_le {F G : Int → Int} : ∀ k : Nat, (∀ x : Nat, x < k → F x ≤ G x) → jsum F k ≤ jsum G k
  | 0, _ => Int.le_refl _
  | k + 1, h => by
    simp only [jsum]
    have a := h k (by omega)
    have i := jsum_le k (fun x q => h x (by omega))
    omega
theorem jsum_r {F : Int → Int} : ∀ k : Nat, (∀ x : Nat, x < k → 0 ≤ F x ∧ F x ≤ 1000000) → 0 ≤ jsum F k ∧ jsum F k ≤ 1000000 * k
  | 0, _ => ⟨Int.le_refl _, Int.le_refl _⟩
  | k + 1, h => by
    simp only [jsum]
    have a := h k (by omega)
    have i := jsum_r k (fun x q => h x (by omega))
    omega
theorem jsum_rev {F G : Int → Int} {N : Nat} (h : ∀ x : Nat, x < N → G x = F ((N : Int) - 1 - x)) : ∀ k : Nat, k ≤ N → jsum G k + jsum F (N - k) = jsum F N
  | 0, _ => by
    show 0 + jsum F (N - 0) = _
    rw [Int.zero_add, Nat.sub_zero]
  | k + 1, hk => by
    have i := jsum_rev h k (by omega)
    rw [show N - k = (N - (k + 1)) + 1 by omega] at i
    simp only [jsum] at i ⊢
    rw [h k (by omega), show (N : Int) - 1 - (k : Int) = ((N - (k + 1) : Nat) : Int) by omega]
    omega
theorem jz_p10 (k : Nat) (h : k ≤ 6) : 1 ≤ (10 : Int) ^ k ∧ (10 : Int) ^ k ≤ 1000000 := by
  rcases (show k = 0 ∨ k = 1 ∨ k = 2 ∨ k = 3 ∨ k = 4 ∨ k = 5 ∨ k = 6 by omega) with e | e | e | e | e | e | e <;> rw [e] <;> decide
theorem jz_m10 {y v K : Int} (y0 : 0 ≤ y) (yK : y ≤ K) (v0 : 0 ≤ v) (v1 : v ≤ 10) : 0 ≤ y * v ∧ y * v ≤ K * 10 := by
  refine ⟨Int.mul_nonneg y0 v0, Int.le_trans (Int.mul_le_mul_of_nonneg_left v1 y0) ?_⟩
  omega
theorem jwt_r {b : Int → Bool} {c : Int} (c0 : 0 ≤ c) (c1 : c ≤ 10) : ∀ k : Nat, 0 ≤ jwt b c k ∧ jwt b c k ≤ (10 : Int) ^ k
  | 0 => ⟨by show (0 : Int) ≤ 1; decide, Int.le_refl _⟩
  | k + 1 => by
    have i := jwt_r (b := b) c0 c1 k
    simp only [jwt, Int.pow_succ]
    exact jz_m10 i.1 i.2 (by split <;> omega) (by split <;> omega)
theorem jeu_0 (k : Nat) (y : Int) : jeu k y 0 = y := by
  cases k with
  | zero => rfl
  | succ k => simp only [jeu]; rfl
theorem jeu_pos : ∀ (k : Nat) (y z : Int), 0 < y → 0 ≤ z → 0 < jeu k y z
  | 0, y, z, h, _ => h
  | k + 1, y, z, h, hz => by
    simp only [jeu]
    split
    · exact h
    · exact jeu_pos k z (y % z) (by omega) (Int.emod_nonneg y (by omega))
theorem jeu_suff : ∀ (k : Nat) (y z : Int), 0 ≤ z → z ≤ y → y * z < (2 : Int) ^ k → ∀ m, k ≤ m → jeu m y z = jeu k y z
  | 0, y, z, h0, h1, h2, m, _ => by
    have e : z = 0 := by
      have h3 : y * z < 1 := h2
      rcases (show z = 0 ∨ 1 ≤ z by omega) with q | q
      · exact q
      · exfalso
        have h4 : 1 * 1 ≤ y * z := Int.mul_le_mul (by omega) q (by omega) (by omega)
        omega
    rw [e, jeu_0, jeu_0]
  | k + 1, y, z, h0, h1, h2, m, hm => by
    obtain ⟨m', rfl⟩ : ∃ m', m = m' + 1 := ⟨m - 1, by omega⟩
    simp only [jeu]
    by_cases e : z = 0
    · rw [if_pos e, if_pos e]
    · rw [if_neg e, if_neg e]
      have r0 := Int.emod_nonneg y e
      have r1 := Int.emod_lt_of_pos y (show 0 < z by omega)
      have d0 := Int.emod_add_mul_ediv y z
      have d1 : 1 ≤ y / z := by
        rcases (show y / z ≤ 0 ∨ 1 ≤ y / z by omega) with q | q
        · exfalso
          have q2 : z * (y / z) ≤ z * 0 := Int.mul_le_mul_of_nonneg_left q h0
          omega
        · exact q
      have d2 : z * 1 ≤ z * (y / z) := Int.mul_le_mul_of_nonneg_left d1 h0
      have d3 : z * (2 * (y % z)) ≤ z * y := Int.mul_le_mul_of_nonneg_left (by omega) h0
      have d4 : z * (2 * (y % z)) = 2 * (z * (y % z)) := by rw [Int.mul_left_comm]
      have d5 : z * y = y * z := Int.mul_comm z y
      rw [Int.pow_succ] at h2
      exact jeu_suff k z (y % z) r0 (by omega) (by omega) m' (by omega)
def jF (t : Int → Int) (q c : Int) (b : Int → Bool) : Int := if (jc b t (t 1).toNat).1 ≤ q then jwt b c (t 1).toNat else 0
def jA (t : Int → Int) (q c : Int) : Int := jsum (fun p => jF t q c (jpb p)) (2 ^ (t 1).toNat)
theorem jF_r {t : Int → Int} {q c : Int} {b : Int → Bool} (h1 : t 1 ≤ 6) (c0 : 0 ≤ c) (c1 : c ≤ 10) : 0 ≤ jF t q c b ∧ jF t q c b ≤ 1000000 := by
  have a := jwt_r (b := b) c0 c1 (t 1).toNat
  have p := jz_p10 (t 1).toNat (by omega)
  unfold jF
  split <;> omega
theorem jN_le {n : Nat} (h : n ≤ 6) : 1 ≤ 2 ^ n ∧ 2 ^ n ≤ 64 := by
  rcases (show n = 0 ∨ n = 1 ∨ n = 2 ∨ n = 3 ∨ n = 4 ∨ n = 5 ∨ n = 6 by omega) with e | e | e | e | e | e | e <;> rw [e] <;> decide
/-- by who is away or by who is there: the same -/
theorem jA_away {t : Int → Int} {q c : Int} (h1 : 0 ≤ t 1 ∧ t 1 ≤ 6) : jsum (fun a => jF t q c (jnb a)) (2 ^ (t 1).toNat) = jA t q c := by
  have r := jsum_rev (F := fun p => jF t q c (jpb p)) (G := fun a => jF t q c (jnb a)) (N := 2 ^ (t 1).toNat) (fun x hx => ?_) (2 ^ (t 1).toNat) (Nat.le_refl _)
  · rw [Nat.sub_self] at r
    show _ = jsum _ _
    rw [← r]
    show _ = _ + 0
    rw [Int.add_zero]
  · have l := jN_le (n := (t 1).toNat) (by omega)
    have e : ∀ k : Nat, k < (t 1).toNat → jnb (x : Int) (k : Int) = jpb (((2 ^ (t 1).toNat : Nat) : Int) - 1 - (x : Int)) (k : Int) := fun k hk => (jpn_v ⟨(t 1).toNat, by omega⟩ ⟨x, by omega⟩ ⟨k, by omega⟩ hx hk).symm
    show jF t q c (jnb x) = jF t q c (jpb (((2 ^ (t 1).toNat : Nat) : Int) - 1 - (x : Int)))
    unfold jF
    rw [jc_cong _ e, jwt_cong _ e]
theorem jW_away {t : Int → Int} {c : Int} (h1 : 0 ≤ t 1 ∧ t 1 ≤ 6) (c0 : 0 ≤ c) (c1 : c ≤ 10) : jsum (fun a => jwt (jnb a) c (t 1).toNat) (2 ^ (t 1).toNat) = (10 : Int) ^ (t 1).toNat := by
  obtain ⟨n, rfl⟩ := Int.eq_ofNat_of_zero_le c0
  exact jw10_v ⟨(t 1).toNat, by omega⟩ ⟨n, by omega⟩
theorem jA_le {t : Int → Int} {q c : Int} (h1 : 0 ≤ t 1 ∧ t 1 ≤ 6) (c0 : 0 ≤ c) (c1 : c ≤ 10) : 0 ≤ jA t q c ∧ jA t q c ≤ (10 : Int) ^ (t 1).toNat := by
  refine ⟨(jsum_r _ (fun x _ => jF_r h1.2 c0 c1)).1, ?_⟩
  rw [← jA_away h1, ← jW_away h1 c0 c1]
  refine jsum_le _ (fun x _ => ?_)
  have a := jwt_r (b := jnb x) c0 c1 (t 1).toNat
  show jF t q c (jnb x) ≤ jwt (jnb x) c (t 1).toNat
  unfold jF
  split <;> omega
/-- the two ways to the greatest common divisor -/
theorem jeu_two {y z : Int} {n : Nat} (y0 : 0 < y) (yk : y ≤ 1000000) (z0 : 0 ≤ z) (zy : z ≤ y) (hn : 65 ≤ n) : jeu n z y = jeu 64 y z := by
  obtain ⟨m, rfl⟩ : ∃ m, n = m + 1 := ⟨n - 1, by omega⟩
  have e1 : jeu (m + 1) z y = jeu m y (z % y) := by
    simp only [jeu]
    rw [if_neg (by omega)]
  rw [e1]
  by_cases h : z = y
  · have e2 : z % y = 0 := by rw [h]; exact Int.emod_self
    have e3 : jeu 64 y z = y := by
      rw [h]
      show (if y = 0 then y else jeu 63 y (y % y)) = y
      rw [if_neg (by omega), Int.emod_self, jeu_0]
    rw [e2, e3, jeu_0]
  · rw [Int.emod_eq_of_lt z0 (by omega)]
    refine jeu_suff 64 y z z0 zy ?_ m (by omega)
    have a : y * z ≤ 1000000 * 1000000 := Int.mul_le_mul yk (by omega) z0 (by omega)
    have b : (2 : Int) ^ 64 = 18446744073709551616 := by decide
    omega
set_option maxRecDepth 10000 in
theorem cl_weight_l {X : jm_X} {d : Nat} {Q : jv_P} {b : Int → Bool} {p c n0 : Int} {μ : jm_M} (hn : μ 7 3 = n0) (n6 : n0 ≤ 6) (hc : 0 ≤ c ∧ c ≤ 10) (hb : ∀ k, 0 ≤ k → k < 6 → (b k = true ↔ jm_and (jm_shr p k) 1 = 1)) (k : Q [.inl (jwt b c n0.toNat)] μ) : ∀ (n : Nat) (y w : Int), 0 ≤ w → w ≤ n0 → n0 - w < n → y = jwt b c w.toNat → jV X d jm_p_X2_weight Q 4 [some (.inr (.inr 7)), some (.inl p), some (.inl c), some (.inl y), some (.inl w)] [] μ := by
  intro n
  induction n with
  | zero => intro y w y0 y1 yn ey; exfalso; omega
  | succ n ih =>
    intro y w y0 y1 yn ey
    have a := jwt_r (b := b) hc.1 hc.2 w.toNat
    have a2 := jz_p10 w.toNat (by omega)
    have q1 := jz_m10 (y := y) (v := 10 - c) (K := 1000000) (by omega) (by omega) (by omega) (by omega)
    have q2 := jz_m10 (y := y) (v := c) (K := 1000000) (by omega) (by omega) (by omega) (by omega)
    refine jv_iload rfl rfl rfl ?_
    refine jv_aload_n rfl rfl rfl (by decide) ?_
    refine jv_geti rfl rfl rfl ⟨by decide, rfl⟩ (by decide) ?_
    refine jv_icmp_ge rfl rfl rfl (fun c7 => ?_) (fun c7 => ?_)
    · refine jv_iload_n rfl rfl rfl ?_
      refine jv_ireturn rfl (Or.inl rfl) ?_
      have hw : w = n0 := by omega
      rw [ey, hw]
      exact k
    · refine jv_iload_n rfl rfl rfl ?_
      refine jv_iload_n rfl rfl rfl ?_
      refine jv_iload rfl rfl rfl ?_
      refine jv_ishr rfl rfl ?_
      refine jv_iconst rfl rfl ?_
      refine jv_iand rfl rfl ?_
      refine jv_iconst rfl rfl ?_
      refine jv_icmp_ne rfl rfl rfl (fun c15 => ?_) (fun c15 => ?_)
      · refine jv_iload_n rfl rfl rfl ?_
        refine jv_imul rfl rfl ⟨by omega, by omega⟩ ?_
        refine jv_istore_n (fun x => [some (.inr (.inr 7)), some (.inl p), some (.inl c), some (.inl x), some (.inl w)]) rfl rfl (fun _ => rfl) (fun x3_22 ex3_22 => ?_)
        refine jv_iinc (fun x => [some (.inr (.inr 7)), some (.inl p), some (.inl c), some (.inl x3_22), some (.inl x)]) rfl rfl rfl ⟨by omega, by omega⟩ (fun _ => rfl) (fun x4_23 ex4_23 => ?_)
        refine jv_goto rfl rfl ?_
        refine ih x3_22 x4_23 (by omega) (by omega) (by omega) ?_
        rw [ex4_23, show (w + 1).toNat = w.toNat + 1 by omega]
        simp only [jwt]
        rw [show ((w.toNat : Nat) : Int) = w by omega, ex3_22, ey]
        first
        | rw [if_neg (fun z => c15 ((hb w (by omega) (by omega)).1 z))]
        | rw [if_pos ((hb w (by omega) (by omega)).2 (by omega))]
      · refine jv_bipush rfl rfl ?_
        refine jv_iload_n rfl rfl rfl ?_
        refine jv_isub rfl rfl ⟨by omega, by omega⟩ ?_
        refine jv_goto rfl rfl ?_
        refine jv_imul rfl rfl ⟨by omega, by omega⟩ ?_
        refine jv_istore_n (fun x => [some (.inr (.inr 7)), some (.inl p), some (.inl c), some (.inl x), some (.inl w)]) rfl rfl (fun _ => rfl) (fun x3_22_1 ex3_22_1 => ?_)
        refine jv_iinc (fun x => [some (.inr (.inr 7)), some (.inl p), some (.inl c), some (.inl x3_22_1), some (.inl x)]) rfl rfl rfl ⟨by omega, by omega⟩ (fun _ => rfl) (fun x4_23_1 ex4_23_1 => ?_)
        refine jv_goto rfl rfl ?_
        refine ih x3_22_1 x4_23_1 (by omega) (by omega) (by omega) ?_
        rw [ex4_23_1, show (w + 1).toNat = w.toNat + 1 by omega]
        simp only [jwt]
        rw [show ((w.toNat : Nat) : Int) = w by omega, ex3_22_1, ey]
        first
        | rw [if_neg (fun z => c15 ((hb w (by omega) (by omega)).1 z))]
        | rw [if_pos ((hb w (by omega) (by omega)).2 (by omega))]
set_option maxRecDepth 10000 in
theorem cl_weight {X : jm_X} {d : Nat} {Q : jv_P} {μ : jm_M} {b : Int → Bool} {p c n0 : Int} (hn : μ 7 3 = n0) (n0p : 0 ≤ n0 ∧ n0 ≤ 6) (hc : 0 ≤ c ∧ c ≤ 10) (hb : ∀ k, 0 ≤ k → k < 6 → (b k = true ↔ jm_and (jm_shr p k) 1 = 1)) (k : Q [.inl (jwt b c n0.toNat)] μ) : cV X (d + 1) 28 [.inr (.inr 7), .inl p, .inl c] μ Q := by
  refine jv_enter (d := d + 0) jm_p_X2_weight [some (.inr (.inr 7)), some (.inl p), some (.inl c), none, none] rfl rfl rfl (Nat.le_of_ble_eq_true rfl) rfl rfl ?_
  refine jv_iconst rfl rfl ?_
  refine jv_istore_nK (L2 := [some (.inr (.inr 7)), some (.inl p), some (.inl c), some (.inl 1), none]) rfl rfl rfl ?_
  refine jv_iconst rfl rfl ?_
  refine jv_istoreK (L2 := [some (.inr (.inr 7)), some (.inl p), some (.inl c), some (.inl 1), some (.inl 0)]) rfl rfl rfl ?_
  exact cl_weight_l hn n0p.2 hc hb k 9 1 0 (by omega) n0p.1 (by omega) rfl
set_option maxRecDepth 10000 in
theorem cl_common_l {X : jm_X} {d : Nat} {Q : jv_P} {a b g : Int} {μ : jm_M} (k : Q [.inl g] μ) : ∀ (n : Nat) (y z w : Int) (o5 : Option jm_V), 0 ≤ w → 64 - w < n → 0 ≤ y → 0 ≤ z → jeu (64 - w).toNat y z = g → jV X d jm_p_X2_commonDivisor Q 6 [some (.inl a), some (.inl b), some (.inl y), some (.inl z), some (.inl w), o5] [] μ := by
  intro n
  induction n with
  | zero =>
    intro y z w o5 y0 yn g0 g1 hg
    have e : (64 - w).toNat = 0 := by omega
    rw [e] at hg
    have hg : y = g := hg
    refine jv_iload rfl rfl rfl ?_
    refine jv_bipush rfl rfl ?_
    refine jv_icmp_geT rfl rfl (by omega) ?_
    refine jv_iload_n rfl rfl rfl ?_
    refine jv_ireturn rfl (Or.inl rfl) ?_
    rw [hg]
    exact k
  | succ n ih =>
    intro y z w o5 y0 yn g0 g1 hg
    refine jv_iload rfl rfl rfl ?_
    refine jv_bipush rfl rfl ?_
    refine jv_icmp_ge rfl rfl rfl (fun c8 => ?_) (fun c8 => ?_)
    · refine jv_iload_n rfl rfl rfl ?_
      refine jv_ireturn rfl (Or.inl rfl) ?_
      first
      | (have e : z = 0 := by omega
         rw [e, jeu_0] at hg
         rw [hg]
         exact k)
      | (have e : (64 - w).toNat = 0 := by omega
         rw [e] at hg
         have hg : y = g := hg
         rw [hg]
         exact k)
    · refine jv_iload_n rfl rfl rfl ?_
      refine jv_if_eq rfl rfl rfl (fun c10 => ?_) (fun c10 => ?_)
      · refine jv_iload_n rfl rfl rfl ?_
        refine jv_ireturn rfl (Or.inl rfl) ?_
        first
        | (have e : z = 0 := by omega
           rw [e, jeu_0] at hg
           rw [hg]
           exact k)
        | (have e : (64 - w).toNat = 0 := by omega
           rw [e] at hg
           have hg : y = g := hg
           rw [hg]
           exact k)
      · refine jv_iload_n rfl rfl rfl ?_
        refine jv_iload_n rfl rfl rfl ?_
        refine jv_irem rfl rfl ⟨by omega, by omega⟩ ?_
        refine jv_istore (fun x => [some (.inl a), some (.inl b), some (.inl y), some (.inl z), some (.inl w), some (.inl x)]) rfl rfl (fun _ => rfl) (fun x5_14 ex5_14 => ?_)
        refine jv_iload_n rfl rfl rfl ?_
        refine jv_istore_n (fun x => [some (.inl a), some (.inl b), some (.inl x), some (.inl z), some (.inl w), some (.inl x5_14)]) rfl rfl (fun _ => rfl) (fun x2_16 ex2_16 => ?_)
        refine jv_iload rfl rfl rfl ?_
        refine jv_istore_n (fun x => [some (.inl a), some (.inl b), some (.inl x2_16), some (.inl x), some (.inl w), some (.inl x5_14)]) rfl rfl (fun _ => rfl) (fun x3_18 ex3_18 => ?_)
        refine jv_iinc (fun x => [some (.inl a), some (.inl b), some (.inl x2_16), some (.inl x3_18), some (.inl x), some (.inl x5_14)]) rfl rfl rfl ⟨by omega, by omega⟩ (fun _ => rfl) (fun x4_19 ex4_19 => ?_)
        refine jv_goto rfl rfl ?_
        have r0 := Int.emod_nonneg y (show z ≠ 0 by omega)
        refine ih x2_16 x3_18 x4_19 _ (by omega) (by omega) (by omega) (by omega) ?_
        rw [show (64 - w).toNat = (64 - x4_19).toNat + 1 by omega] at hg
        simp only [jeu] at hg
        rw [if_neg (by omega)] at hg
        rw [ex2_16, ex3_18, ex5_14]
        exact hg
set_option maxRecDepth 10000 in
theorem cl_common {X : jm_X} {d : Nat} {Q : jv_P} {μ : jm_M} {a b : Int} (ha : 0 ≤ a) (hb : 0 ≤ b) (k : Q [.inl (jeu 64 a b)] μ) : cV X (d + 1) 29 [.inl a, .inl b] μ Q := by
  refine jv_enter (d := d + 0) jm_p_X2_commonDivisor [some (.inl a), some (.inl b), none, none, none, none] rfl rfl rfl (Nat.le_of_ble_eq_true rfl) rfl rfl ?_
  refine jv_iload_n rfl rfl rfl ?_
  refine jv_istore_n (fun x => [some (.inl a), some (.inl b), some (.inl x), none, none, none]) rfl rfl (fun _ => rfl) (fun x2_1 ex2_1 => ?_)
  refine jv_iload_n rfl rfl rfl ?_
  refine jv_istore_n (fun x => [some (.inl a), some (.inl b), some (.inl x2_1), some (.inl x), none, none]) rfl rfl (fun _ => rfl) (fun x3_3 ex3_3 => ?_)
  refine jv_iconst rfl rfl ?_
  refine jv_istoreK (L2 := [some (.inl a), some (.inl b), some (.inl x2_1), some (.inl x3_3), some (.inl 0), none]) rfl rfl rfl ?_
  exact cl_common_l k 65 x2_1 x3_3 0 _ (by omega) (by omega) (by omega) (by omega) (by rw [ex2_1, ex3_3]; rfl)
set_option maxRecDepth 10000 in
theorem cl_like1 {X : jm_X} {d : Nat} {Q : jv_P} {q c ab n0 : Int} {μ : jm_M} (hn : μ 7 3 = n0) (n6 : n0 ≤ 6) (k : ∀ w, jV X d jm_p_X2_likelihood Q 14 [some (.inr (.inr 49)), some (.inr (.inr 7)), some (.inl q), some (.inl c), some (.inl ab), some (.inl ((10 : Int) ^ n0.toNat)), some (.inl w), none] [] μ) : ∀ (n : Nat) (y w : Int), 0 ≤ w → w ≤ n0 → n0 - w < n → y = (10 : Int) ^ w.toNat → jV X d jm_p_X2_likelihood Q 4 [some (.inr (.inr 49)), some (.inr (.inr 7)), some (.inl q), some (.inl c), some (.inl ab), some (.inl y), some (.inl w), none] [] μ := by
  intro n
  induction n with
  | zero => intro y w y0 y1 yn ey; exfalso; omega
  | succ n ih =>
    intro y w y0 y1 yn ey
    have a2 := jz_p10 w.toNat (by omega)
    refine jv_iload rfl rfl rfl ?_
    refine jv_aload_n rfl rfl rfl (by decide) ?_
    refine jv_geti rfl rfl rfl ⟨by decide, rfl⟩ (by decide) ?_
    refine jv_icmp_ge rfl rfl rfl (fun c7 => ?_) (fun c7 => ?_)
    · have hw : w = n0 := by omega
      rw [hw] at ey
      rw [ey]
      exact k w
    · refine jv_iload rfl rfl rfl ?_
      refine jv_bipush rfl rfl ?_
      refine jv_imul rfl rfl ⟨by omega, by omega⟩ ?_
      refine jv_istore (fun x => [some (.inr (.inr 49)), some (.inr (.inr 7)), some (.inl q), some (.inl c), some (.inl ab), some (.inl x), some (.inl w), none]) rfl rfl (fun _ => rfl) (fun x5_11 ex5_11 => ?_)
      refine jv_iinc (fun x => [some (.inr (.inr 49)), some (.inr (.inr 7)), some (.inl q), some (.inl c), some (.inl ab), some (.inl x5_11), some (.inl x), none]) rfl rfl rfl ⟨by omega, by omega⟩ (fun _ => rfl) (fun x6_12 ex6_12 => ?_)
      refine jv_goto rfl rfl ?_
      refine ih x5_11 x6_12 (by omega) (by omega) (by omega) ?_
      rw [ex6_12, show (w + 1).toNat = w.toNat + 1 by omega, Int.pow_succ, ex5_11, ey]
set_option maxRecDepth 10000 in
theorem cl_like2 {X : jm_X} {d : Nat} {Q : jv_P} {t : Int → Int} {q c ab wh : Int} {μ0 : jm_M} (hH0 : jH μ0 t) (hc : 0 ≤ c ∧ c ≤ 10) (hwh : 0 < wh ∧ wh ≤ 1000000) (k0 : ab = 0 → ∀ μ2, jf μ0 μ2 → Q [.inl (wh / jeu 64 wh (jA t q c))] μ2) (k1 : ¬ ab = 0 → ∀ μ2, jf μ0 μ2 → Q [.inl (jA t q c / jeu 64 wh (jA t q c))] μ2) : ∀ (n : Nat) (y w : Int) (μ : jm_M), 0 ≤ w → w ≤ ((2 ^ (t 1).toNat : Nat) : Int) → ((2 ^ (t 1).toNat : Nat) : Int) - w < n → y = jsum (fun p => jF t q c (jpb p)) w.toNat → jf μ0 μ → jV X (d + 3) jm_p_X2_likelihood Q 18 [some (.inr (.inr 49)), some (.inr (.inr 7)), some (.inl q), some (.inl c), some (.inl ab), some (.inl wh), some (.inl y), some (.inl w)] [] μ := by
  intro n
  induction n with
  | zero => intro y w μ y0 y1 yn ey hf; exfalso; omega
  | succ n ih =>
    intro y w μ y0 y1 yn ey hf
    have hHμ := jH_jf hf hH0
    have n3μ := jH_3 hHμ
    have n2μ := jH_2 hHμ
    obtain ⟨w0, w1, w2, w3, w4, w6, w7, w8⟩ := id hHμ.1
    have hN := jN_le (n := (t 1).toNat) (by omega)
    have eN : jm_shl 1 (μ 7 3) = ((2 ^ (t 1).toNat : Nat) : Int) := by rw [n3μ]; exact jb_shl w1.1 w1.2
    have hr := jsum_r (F := fun p => jF t q c (jpb p)) w.toNat (fun x _ => jF_r w1.2 hc.1 hc.2)
    have hA := jA_le (q := q) w1 hc.1 hc.2
    have hwr := jwt_r (b := jpb w) hc.1 hc.2 (t 1).toNat
    have hwp := jz_p10 (t 1).toNat (by omega)
    have hgp := jeu_pos 64 wh (jA t q c) hwh.1 hA.1
    refine jv_iload rfl rfl rfl ?_
    refine jv_aload_n rfl rfl rfl (by decide) ?_
    refine jv_callV0 rfl rfl rfl rfl ⟨by decide, rfl⟩ (Nat.le_of_ble_eq_true rfl) (cl_allComers (by omega) ?_)
    show jV _ _ jm_p_X2_likelihood _ 21 [some (.inr (.inr 49)), some (.inr (.inr 7)), some (.inl q), some (.inl c), some (.inl ab), some (.inl wh), some (.inl y), some (.inl w)] [.inl (jm_shl 1 (μ 7 3) - 1), .inl w] μ
    refine jv_icmp_gt rfl rfl rfl (fun c21 => ?_) (fun c21 => ?_)
    · have hw : w = ((2 ^ (t 1).toNat : Nat) : Int) := by omega
      have eA : y = jA t q c := by rw [ey, hw]; rfl
      rw [eA]
      refine jv_iload rfl rfl rfl ?_
      refine jv_iload rfl rfl rfl ?_
      refine jv_callS2 rfl rfl rfl (Nat.le_of_ble_eq_true rfl) (cl_common (by omega) (by omega) ?_)
      show jV _ _ jm_p_X2_likelihood _ 45 [some (.inr (.inr 49)), some (.inr (.inr 7)), some (.inl q), some (.inl c), some (.inl ab), some (.inl wh), some (.inl (jA t q c)), some (.inl w)] [.inl (jeu 64 wh (jA t q c))] μ
      refine jv_istore (fun x => [some (.inr (.inr 49)), some (.inr (.inr 7)), some (.inl q), some (.inl c), some (.inl ab), some (.inl wh), some (.inl (jA t q c)), some (.inl x)]) rfl rfl (fun _ => rfl) (fun x7_45 ex7_45 => ?_)
      refine jv_iload rfl rfl rfl ?_
      refine jv_if_ne rfl rfl rfl (fun c47 => ?_) (fun c47 => ?_)
      · refine jv_iload rfl rfl rfl ?_
        refine jv_if_eq rfl rfl rfl (fun c51 => ?_) (fun c51 => ?_)
        · refine jv_iload rfl rfl rfl ?_
          refine jv_iload rfl rfl rfl ?_
          refine jv_idiv rfl rfl ⟨by omega, by omega⟩ ?_
          refine jv_ireturn rfl (Or.inl rfl) ?_
          first
          | (exfalso; omega)
          | skip
            have eg : x7_45 = jeu 64 wh (jA t q c) := ex7_45
            rw [eg]
            first
            | exact k0 (by omega) _ hf
            | exact k1 (by omega) _ hf
        · refine jv_iload rfl rfl rfl ?_
          refine jv_goto rfl rfl ?_
          refine jv_iload rfl rfl rfl ?_
          refine jv_idiv rfl rfl ⟨by omega, by omega⟩ ?_
          refine jv_ireturn rfl (Or.inl rfl) ?_
          first
          | (exfalso; omega)
          | skip
            have eg : x7_45 = jeu 64 wh (jA t q c) := ex7_45
            rw [eg]
            first
            | exact k0 (by omega) _ hf
            | exact k1 (by omega) _ hf
      · refine jv_ldc rfl rfl ?_
        refine jv_goto rfl rfl ?_
        refine jv_ireturn rfl (Or.inl rfl) ?_
        first
        | (exfalso; omega)
        | skip
          have eg : x7_45 = jeu 64 wh (jA t q c) := ex7_45
          rw [eg]
          first
          | exact k0 (by omega) _ hf
          | exact k1 (by omega) _ hf
    · refine jv_aload_n rfl rfl rfl (by decide) ?_
      refine jv_getr (w := 50) rfl rfl rfl ⟨by decide, rfl⟩ rfl rfl ?_
      refine jv_aload_n rfl rfl rfl (by decide) ?_
      refine jv_callV1 rfl rfl rfl rfl ⟨by decide, rfl⟩ (Nat.le_of_ble_eq_true rfl) (cl_beginT50 hHμ (fun μ25 fμ25 jμ25 lμ25 => ?_))
      show jV _ _ jm_p_X2_likelihood _ 26 [some (.inr (.inr 49)), some (.inr (.inr 7)), some (.inl q), some (.inl c), some (.inl ab), some (.inl wh), some (.inl y), some (.inl w)] [] μ25
      have hHμ25 := jH_congr (fun z a b => fμ25 z (by omega) (by omega) (by omega)) hHμ
      have n3μ25 := jH_3 hHμ25
      have n2μ25 := jH_2 hHμ25
      refine jv_aload_n rfl rfl rfl (by decide) ?_
      refine jv_getr (w := 50) rfl rfl rfl ⟨by decide, rfl⟩ rfl rfl ?_
      refine jv_aload_n rfl rfl rfl (by decide) ?_
      refine jv_iload rfl rfl rfl ?_
      refine jv_callV2 rfl rfl rfl rfl ⟨by decide, rfl⟩ (Nat.le_of_ble_eq_true rfl) (cl_allGo hHμ25 hHμ.1 (jS_id t) (jl_id _) (fun c c0 c1 => jpb_iff y0 (by omega) c0 c1) jμ25 (fun μ30 fμ30 jμ30 => ?_))
      show jV _ _ jm_p_X2_likelihood _ 31 [some (.inr (.inr 49)), some (.inr (.inr 7)), some (.inl q), some (.inl c), some (.inl ab), some (.inl wh), some (.inl y), some (.inl w)] [.inl ((jc (jpb w) t (t 1).toNat).1)] μ30
      have hHμ30 := jH_congr (fun z a b => fμ30 z (by omega) (by omega)) hHμ25
      have n3μ30 := jH_3 hHμ30
      have n2μ30 := jH_2 hHμ30
      refine jv_iload_n rfl rfl rfl ?_
      refine jv_icmp_gt rfl rfl rfl (fun c32 => ?_) (fun c32 => ?_)
      · refine jv_iinc (fun x => [some (.inr (.inr 49)), some (.inr (.inr 7)), some (.inl q), some (.inl c), some (.inl ab), some (.inl wh), some (.inl y), some (.inl x)]) rfl rfl rfl ⟨by omega, by omega⟩ (fun _ => rfl) (fun x7_40 ex7_40 => ?_)
        refine jv_goto rfl rfl ?_
        refine ih y x7_40 μ30 (by omega) (by omega) (by omega) ?_ (fun z p => by rw [fμ30 z (by omega) (by omega), fμ25 z (by omega) (by omega) (by omega), hf z p])
        rw [ex7_40, show (w + 1).toNat = w.toNat + 1 by omega]
        simp only [jsum]
        rw [show ((w.toNat : Nat) : Int) = w by omega]
        skip
        rw [← ey]
        unfold jF
        rw [if_neg (by omega), Int.add_zero]
      · refine jv_iload rfl rfl rfl ?_
        refine jv_aload_n rfl rfl rfl (by decide) ?_
        refine jv_iload rfl rfl rfl ?_
        refine jv_iload_n rfl rfl rfl ?_
        refine jv_callS3 rfl rfl rfl (Nat.le_of_ble_eq_true rfl) (cl_weight (b := jpb w) (n0 := t 1) n3μ30 w1 hc (fun k k0 k1 => jpb_iff y0 (by omega) k0 k1) ?_)
        show jV _ _ jm_p_X2_likelihood _ 38 [some (.inr (.inr 49)), some (.inr (.inr 7)), some (.inl q), some (.inl c), some (.inl ab), some (.inl wh), some (.inl y), some (.inl w)] [.inl (jwt (jpb w) c (t 1).toNat), .inl y] μ30
        refine jv_iadd rfl rfl ⟨by omega, by omega⟩ ?_
        refine jv_istore (fun x => [some (.inr (.inr 49)), some (.inr (.inr 7)), some (.inl q), some (.inl c), some (.inl ab), some (.inl wh), some (.inl x), some (.inl w)]) rfl rfl (fun _ => rfl) (fun x6_39 ex6_39 => ?_)
        refine jv_iinc (fun x => [some (.inr (.inr 49)), some (.inr (.inr 7)), some (.inl q), some (.inl c), some (.inl ab), some (.inl wh), some (.inl x6_39), some (.inl x)]) rfl rfl rfl ⟨by omega, by omega⟩ (fun _ => rfl) (fun x7_40_1 ex7_40_1 => ?_)
        refine jv_goto rfl rfl ?_
        refine ih x6_39 x7_40_1 μ30 (by omega) (by omega) (by omega) ?_ (fun z p => by rw [fμ30 z (by omega) (by omega), fμ25 z (by omega) (by omega) (by omega), hf z p])
        rw [ex7_40_1, show (w + 1).toNat = w.toNat + 1 by omega]
        simp only [jsum]
        rw [show ((w.toNat : Nat) : Int) = w by omega]
        rw [ex6_39]
        rw [← ey]
        unfold jF
        rw [if_pos (by omega)]
set_option maxRecDepth 10000 in
theorem cl_like {X : jm_X} {d : Nat} {Q : jv_P} {μ : jm_M} {t : Int → Int} {q c ab : Int} (hH0 : jH μ t) (hc : 0 ≤ c ∧ c ≤ 10) (k0 : ab = 0 → ∀ μ2, jf μ μ2 → Q [.inl (((10 : Int) ^ (t 1).toNat) / jeu 64 ((10 : Int) ^ (t 1).toNat) (jA t q c))] μ2) (k1 : ¬ ab = 0 → ∀ μ2, jf μ μ2 → Q [.inl (jA t q c / jeu 64 ((10 : Int) ^ (t 1).toNat) (jA t q c))] μ2) : cV X (d + 4) 27 [.inr (.inr 49), .inr (.inr 7), .inl q, .inl c, .inl ab] μ Q := by
  refine jv_enter (d := d + 3) jm_p_X2_likelihood [some (.inr (.inr 49)), some (.inr (.inr 7)), some (.inl q), some (.inl c), some (.inl ab), none, none, none] rfl rfl rfl (Nat.le_of_ble_eq_true rfl) rfl rfl ?_
  refine jv_iconst rfl rfl ?_
  refine jv_istoreK (L2 := [some (.inr (.inr 49)), some (.inr (.inr 7)), some (.inl q), some (.inl c), some (.inl ab), some (.inl 1), none, none]) rfl rfl rfl ?_
  refine jv_iconst rfl rfl ?_
  refine jv_istoreK (L2 := [some (.inr (.inr 49)), some (.inr (.inr 7)), some (.inl q), some (.inl c), some (.inl ab), some (.inl 1), some (.inl 0), none]) rfl rfl rfl ?_
  have w1 := hH0.1.2.1
  refine cl_like1 (jH_3 hH0) w1.2 (fun w => ?_) 9 1 0 (by omega) w1.1 (by omega) rfl
  refine jv_iconst rfl rfl ?_
  refine jv_istoreK (L2 := [some (.inr (.inr 49)), some (.inr (.inr 7)), some (.inl q), some (.inl c), some (.inl ab), some (.inl ((10 : Int) ^ (t 1).toNat)), some (.inl 0), none]) rfl rfl rfl ?_
  refine jv_iconst rfl rfl ?_
  refine jv_istoreK (L2 := [some (.inr (.inr 49)), some (.inr (.inr 7)), some (.inl q), some (.inl c), some (.inl ab), some (.inl ((10 : Int) ^ (t 1).toNat)), some (.inl 0), some (.inl 0)]) rfl rfl rfl ?_
  have hp := jz_p10 (t 1).toNat (by omega)
  have hN := jN_le (n := (t 1).toNat) (by omega)
  exact cl_like2 hH0 hc (by omega) k0 k1 70 0 0 μ (by omega) (by omega) (by omega) rfl (jf_id μ)
