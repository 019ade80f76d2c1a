/-! pacts -/
def jo (t : Int → Int) (a b : Int) : Int := if t 3 ≤ t (8 + 6 * a + t (4 + b)) ∧ t 3 ≤ t (8 + 6 * b + t (4 + a)) then 1 else 0
theorem jo_pos {t : Int → Int} {a b : Int} (h : jt_one t a b) : jo t a b = 1 := if_pos h
theorem jo_neg {t : Int → Int} {a b : Int} (h : ¬ jt_one t a b) : jo t a b = 0 := if_neg h
theorem jo_r {t : Int → Int} {a b : Int} : 0 ≤ jo t a b ∧ jo t a b ≤ 1 := by
  unfold jo
  split <;> omega
/-- the pacts of a with the mats behind it -/
def jpr (t : Int → Int) (a : Int) : Int → Int := fun b => if a < b then jo t a b else 0
def jpR (t : Int → Int) : Int → Int := fun a => jsum (jpr t a) (t 0).toNat
theorem jpr_r {t : Int → Int} {a b : Int} : 0 ≤ jpr t a b ∧ jpr t a b ≤ 1 := by
  have h := jo_r (t := t) (a := a) (b := b)
  unfold jpr
  split <;> omega
theorem jpr_0 {t : Int → Int} {a : Int} : ∀ k : Nat, (k : Int) ≤ a + 1 → jsum (jpr t a) k = 0
  | 0, _ => rfl
  | k + 1, h => by
    simp only [jsum]
    rw [jpr_0 k (by omega)]
    unfold jpr
    rw [if_neg (by omega)]
    rfl
theorem jsum_r1 {F : Int → Int} {M : Nat} : ∀ k : Nat, (∀ x : Nat, x < k → 0 ≤ F x ∧ F x ≤ M) → 0 ≤ jsum F k ∧ jsum F k ≤ ((M * k : Nat) : Int)
  | 0, _ => ⟨Int.le_refl _, by simp [jsum]⟩
  | k + 1, h => by
    simp only [jsum]
    have a := h k (by omega)
    have i := jsum_r1 k (fun x q => h x (by omega))
    have e : M * (k + 1) = M * k + M := Nat.mul_succ M k
    omega
theorem jpr_s {t : Int → Int} {a : Int} (k : Nat) (h : k ≤ 4) : 0 ≤ jsum (jpr t a) k ∧ jsum (jpr t a) k ≤ 4 := by
  have q := jsum_r1 (F := jpr t a) (M := 1) k (fun x _ => jpr_r)
  omega
theorem jpR_s {t : Int → Int} (h0 : t 0 ≤ 4) (k : Nat) (h : k ≤ 4) : 0 ≤ jsum (jpR t) k ∧ jsum (jpR t) k ≤ 16 := by
  have q := jsum_r1 (F := jpR t) (M := 4) k (fun x _ => jpr_s _ (by omega))
  omega
/-- v: the first pact behind the place lo -/
def jfq (t : Int → Int) (n lo v : Int) : Prop := (v = -1000000 ∧ ∀ a b, 0 ≤ a → a < b → b < n → lo < 10 * a + b → ¬ jt_one t a b) ∨ (∃ a b, (0 ≤ a ∧ a < b ∧ b < n ∧ lo < 10 * a + b) ∧ jt_one t a b ∧ v = 10 * a + b ∧ ∀ a' b', 0 ≤ a' → a' < b' → b' < n → lo < 10 * a' + b' → 10 * a' + b' < 10 * a + b → ¬ jt_one t a' b')
theorem jfq_down {t : Int → Int} {n lo lo' v : Int} (hl : lo' ≤ lo) (h : ∀ a b, 0 ≤ a → a < b → b < n → lo' < 10 * a + b → 10 * a + b ≤ lo → ¬ jt_one t a b) (q : jfq t n lo v) : jfq t n lo' v := by
  rcases q with ⟨e, q⟩ | ⟨a, b, q, q1, e, q2⟩
  · refine Or.inl ⟨e, fun a b a0 ab bn hc => ?_⟩
    by_cases hh : 10 * a + b ≤ lo
    · exact h a b a0 ab bn hc hh
    · exact q a b a0 ab bn (by omega)
  · refine Or.inr ⟨a, b, by omega, q1, e, fun a' b' a0 ab bn hc hd => ?_⟩
    by_cases hh : 10 * a' + b' ≤ lo
    · exact h a' b' a0 ab bn hc hh
    · exact q2 a' b' a0 ab bn (by omega) hd
theorem jfq_one {t : Int → Int} {n lo v v' : Int} (h : jfq t n lo v) (h' : jfq t n lo v') : v = v' := by
  rcases h with ⟨e, q⟩ | ⟨a, b, q, q1, e, q2⟩ <;> rcases h' with ⟨e', q'⟩ | ⟨a', b', q', q1', e', q2'⟩
  · omega
  · exact absurd q1' (q a' b' q'.1 q'.2.1 q'.2.2.1 q'.2.2.2)
  · exact absurd q1 (q' a b q.1 q.2.1 q.2.2.1 q.2.2.2)
  · rcases Int.lt_trichotomy v v' with g | g | g
    · exact absurd q1 (q2' a b q.1 q.2.1 q.2.2.1 q.2.2.2 (by omega))
    · exact g
    · exact absurd q1' (q2 a' b' q'.1 q'.2.1 q'.2.2.1 q'.2.2.2 (by omega))
set_option maxRecDepth 10000 in
theorem cl_pactIn_l {X : jm_X} {d : Nat} {Q : jv_P} {t : Int → Int} {μ : jm_M} {a z0 : Int} (hHμ : jH μ t) (ha : 0 ≤ a ∧ a < t 0) (hz0 : 0 ≤ z0 ∧ z0 ≤ 100) (k : ∀ b : Int, jV X (d + 1) jm_p_X4_pactCount Q 24 [some (.inr (.inr 7)), some (.inl (z0 + jpR t a)), some (.inl a), some (.inl b)] [] μ) : ∀ (n : Nat) (y b : Int), a < b → b ≤ t 0 → t 0 - b < n → y = z0 + jsum (jpr t a) b.toNat → jV X (d + 1) jm_p_X4_pactCount Q 12 [some (.inr (.inr 7)), some (.inl y), some (.inl a), some (.inl b)] [] μ := by
  have w0 := hHμ.1.1
  have n2μ := jH_2 hHμ
  intro n
  induction n with
  | zero => intro y b y0 y1 yn ey; exfalso; omega
  | succ n ih =>
    intro y b y0 y1 yn ey
    have hr := jpr_s (t := t) (a := a) b.toNat (by omega)
    refine jv_iload_n rfl rfl rfl ?_
    refine jv_aload_n rfl rfl rfl (by decide) ?_
    refine jv_geti rfl rfl rfl ⟨by decide, rfl⟩ (by decide) ?_
    refine jv_icmp_ge rfl rfl rfl (fun c15 => ?_) (fun c15 => ?_)
    · have hx : b = t 0 := by omega
      rw [ey, hx]
      exact k _
    · refine jv_aload_n rfl rfl rfl (by decide) ?_
      refine jv_iload_n rfl rfl rfl ?_
      refine jv_iload_n rfl rfl rfl ?_
      refine jv_callV2 rfl rfl rfl rfl ⟨by decide, rfl⟩ (Nat.le_of_ble_eq_true rfl) (cl_areAtOne hHμ.2.2.1 hHμ.2.2.2 hHμ.1 (by omega) (by omega) (fun b19 => ?_) (fun b19 => ?_))
      · show jV _ _ jm_p_X4_pactCount _ 20 [some (.inr (.inr 7)), some (.inl y), some (.inl a), some (.inl b)] [.inl 1] μ
        refine jv_if_eqF rfl rfl (by decide) ?_
        refine jv_iinc (fun x => [some (.inr (.inr 7)), some (.inl x), some (.inl a), some (.inl b)]) rfl rfl rfl ⟨by omega, by omega⟩ (fun _ => rfl) (fun x1_21 ex1_21 => ?_)
        refine jv_iinc (fun x => [some (.inr (.inr 7)), some (.inl x1_21), some (.inl a), some (.inl x)]) rfl rfl rfl ⟨by omega, by omega⟩ (fun _ => rfl) (fun x3_22 ex3_22 => ?_)
        refine jv_goto rfl rfl ?_
        refine ih x1_21 x3_22 (by omega) (by omega) (by omega) ?_
        rw [ex3_22, show (b + 1).toNat = b.toNat + 1 by omega]
        simp only [jsum]
        rw [show ((b.toNat : Nat) : Int) = b by omega]
        have eo : jpr t a b = jo t a b := if_pos (by omega)
        rw [eo]
        first
        | rw [jo_pos b19]
        | rw [jo_neg b19]
        omega
      · show jV _ _ jm_p_X4_pactCount _ 20 [some (.inr (.inr 7)), some (.inl y), some (.inl a), some (.inl b)] [.inl 0] μ
        refine jv_if_eqT rfl rfl (by decide) ?_
        refine jv_iinc (fun x => [some (.inr (.inr 7)), some (.inl y), some (.inl a), some (.inl x)]) rfl rfl rfl ⟨by omega, by omega⟩ (fun _ => rfl) (fun x3_22_1 ex3_22_1 => ?_)
        refine jv_goto rfl rfl ?_
        refine ih y x3_22_1 (by omega) (by omega) (by omega) ?_
        rw [ex3_22_1, show (b + 1).toNat = b.toNat + 1 by omega]
        simp only [jsum]
        rw [show ((b.toNat : Nat) : Int) = b by omega]
        have eo : jpr t a b = jo t a b := if_pos (by omega)
        rw [eo]
        first
        | rw [jo_pos b19]
        | rw [jo_neg b19]
        omega
set_option maxRecDepth 10000 in
theorem cl_pactCount_l {X : jm_X} {d : Nat} {Q : jv_P} {t : Int → Int} {μ : jm_M} (hHμ : jH μ t) (k : Q [.inl (jsum (jpR t) (t 0).toNat)] μ) : ∀ (n : Nat) (y a : Int) (o3 : Option jm_V), 0 ≤ a → a ≤ t 0 → t 0 - a < n → y = jsum (jpR t) a.toNat → jV X (d + 1) jm_p_X4_pactCount Q 4 [some (.inr (.inr 7)), some (.inl y), some (.inl a), o3] [] μ := by
  have w0 := hHμ.1.1
  have n2μ := jH_2 hHμ
  intro n
  induction n with
  | zero => intro y a o3 y0 y1 yn ey; exfalso; omega
  | succ n ih =>
    intro y a o3 y0 y1 yn ey
    have hr := jpR_s w0.2 a.toNat (by omega)
    refine jv_iload_n rfl rfl rfl ?_
    refine jv_aload_n rfl rfl rfl (by decide) ?_
    refine jv_geti rfl rfl rfl ⟨by decide, rfl⟩ (by decide) ?_
    refine jv_icmp_ge rfl rfl rfl (fun c7 => ?_) (fun c7 => ?_)
    · refine jv_iload_n rfl rfl rfl ?_
      refine jv_ireturn rfl (Or.inl rfl) ?_
      have hx : a = t 0 := by omega
      rw [ey, hx]
      exact k
    · refine jv_iload_n rfl rfl rfl ?_
      refine jv_iconst rfl rfl ?_
      refine jv_iadd rfl rfl ⟨by omega, by omega⟩ ?_
      refine jv_istore_n (fun x => [some (.inr (.inr 7)), some (.inl y), some (.inl a), some (.inl x)]) rfl rfl (fun _ => rfl) (fun x3_11 ex3_11 => ?_)
      refine cl_pactIn_l hHμ (by omega) (z0 := y) (by omega) (fun b2 => ?_) 9 y x3_11 (by omega) (by omega) (by omega) (by rw [ex3_11, jpr_0 _ (by omega), Int.add_zero])
      refine jv_iinc (fun x => [some (.inr (.inr 7)), some (.inl (y + jpR t a)), some (.inl x), some (.inl b2)]) rfl rfl rfl ⟨by omega, by omega⟩ (fun _ => rfl) (fun x2_24 ex2_24 => ?_)
      refine jv_goto rfl rfl ?_
      refine ih (y + jpR t a) x2_24 _ (by omega) (by omega) (by omega) ?_
      rw [ex2_24, show (a + 1).toNat = a.toNat + 1 by omega]
      simp only [jsum]
      rw [show ((a.toNat : Nat) : Int) = a by omega, ← ey]
set_option maxRecDepth 10000 in
theorem cl_pactCount {X : jm_X} {d : Nat} {Q : jv_P} {μ : jm_M} {t : Int → Int} (hHμ : jH μ t) (k : Q [.inl (jsum (jpR t) (t 0).toNat)] μ) : cV X (d + 2) 47 [.inr (.inr 7)] μ Q := by
  refine jv_enter (d := d + 1) jm_p_X4_pactCount [some (.inr (.inr 7)), none, none, none] rfl rfl rfl (Nat.le_of_ble_eq_true rfl) rfl rfl ?_
  refine jv_iconst rfl rfl ?_
  refine jv_istore_nK (L2 := [some (.inr (.inr 7)), some (.inl 0), none, none]) rfl rfl rfl ?_
  refine jv_iconst rfl rfl ?_
  refine jv_istore_nK (L2 := [some (.inr (.inr 7)), some (.inl 0), some (.inl 0), none]) rfl rfl rfl ?_
  exact cl_pactCount_l hHμ k 9 0 0 _ (by omega) hHμ.1.1.1 (by have := hHμ.1.1.2; omega) rfl
set_option maxRecDepth 10000 in
theorem cl_firstIn_l {X : jm_X} {d : Nat} {Q : jv_P} {t : Int → Int} {μ : jm_M} {a : Int} (hHμ : jH μ t) (ha : 0 ≤ a ∧ a < t 0) (kk : ∀ v, jfq t (t 0) (-1) v → Q [.inl v] μ) (k : ∀ b : Int, (∀ a' b', 0 ≤ a' → a' < b' → b' < t 0 → 10 * a' + b' < 10 * (a + 1) → ¬ jt_one t a' b') → jV X (d + 1) jm_p_X4_firstPact Q 27 [some (.inr (.inr 7)), some (.inl a), some (.inl b)] [] μ) : ∀ (n : Nat) (b : Int), a < b → b ≤ t 0 → t 0 - b < n → (∀ a' b', 0 ≤ a' → a' < b' → b' < t 0 → 10 * a' + b' < 10 * a + b → ¬ jt_one t a' b') → jV X (d + 1) jm_p_X4_firstPact Q 10 [some (.inr (.inr 7)), some (.inl a), some (.inl b)] [] μ := by
  have w0 := hHμ.1.1
  have n2μ := jH_2 hHμ
  intro n
  induction n with
  | zero => intro b y0 y1 yn hv; exfalso; omega
  | succ n ih =>
    intro b y0 y1 yn hv
    refine jv_iload_n rfl rfl rfl ?_
    refine jv_aload_n rfl rfl rfl (by decide) ?_
    refine jv_geti rfl rfl rfl ⟨by decide, rfl⟩ (by decide) ?_
    refine jv_icmp_ge rfl rfl rfl (fun c13 => ?_) (fun c13 => ?_)
    · exact k b (fun a1 b1 p q r s => hv a1 b1 p q r (by omega))
    · refine jv_aload_n rfl rfl rfl (by decide) ?_
      refine jv_iload_n rfl rfl rfl ?_
      refine jv_iload_n rfl rfl rfl ?_
      refine jv_callV2 rfl rfl rfl rfl ⟨by decide, rfl⟩ (Nat.le_of_ble_eq_true rfl) (cl_areAtOne hHμ.2.2.1 hHμ.2.2.2 hHμ.1 (by omega) (by omega) (fun b17 => ?_) (fun b17 => ?_))
      · show jV _ _ jm_p_X4_firstPact _ 18 [some (.inr (.inr 7)), some (.inl a), some (.inl b)] [.inl 1] μ
        refine jv_if_eqF rfl rfl (by decide) ?_
        refine jv_bipush rfl rfl ?_
        refine jv_iload_n rfl rfl rfl ?_
        refine jv_imul rfl rfl ⟨by omega, by omega⟩ ?_
        refine jv_iload_n rfl rfl rfl ?_
        refine jv_iadd rfl rfl ⟨by omega, by omega⟩ ?_
        refine jv_ireturn rfl (Or.inl rfl) ?_
        exact kk _ (Or.inr ⟨a, b, by omega, b17, rfl, fun a1 b1 p q r _ s => hv a1 b1 p q r s⟩)
      · show jV _ _ jm_p_X4_firstPact _ 18 [some (.inr (.inr 7)), some (.inl a), some (.inl b)] [.inl 0] μ
        refine jv_if_eqT rfl rfl (by decide) ?_
        refine jv_iinc (fun x => [some (.inr (.inr 7)), some (.inl a), some (.inl x)]) rfl rfl rfl ⟨by omega, by omega⟩ (fun _ => rfl) (fun x2_25 ex2_25 => ?_)
        refine jv_goto rfl rfl ?_
        refine ih x2_25 (by omega) (by omega) (by omega) (fun a1 b1 p q r s => ?_)
        by_cases hh : 10 * a1 + b1 < 10 * a + b
        · exact hv a1 b1 p q r hh
        · rw [show a1 = a by omega, show b1 = b by omega]
          exact b17
set_option maxRecDepth 10000 in
theorem cl_first_l {X : jm_X} {d : Nat} {Q : jv_P} {t : Int → Int} {μ : jm_M} (hHμ : jH μ t) (kk : ∀ v, jfq t (t 0) (-1) v → Q [.inl v] μ) : ∀ (n : Nat) (a : Int) (o2 : Option jm_V), 0 ≤ a → a ≤ t 0 → t 0 - a < n → (∀ a' b', 0 ≤ a' → a' < b' → b' < t 0 → 10 * a' + b' < 10 * a → ¬ jt_one t a' b') → jV X (d + 1) jm_p_X4_firstPact Q 2 [some (.inr (.inr 7)), some (.inl a), o2] [] μ := by
  have w0 := hHμ.1.1
  have n2μ := jH_2 hHμ
  intro n
  induction n with
  | zero => intro a o2 y0 y1 yn hv; exfalso; omega
  | succ n ih =>
    intro a o2 y0 y1 yn hv
    refine jv_iload_n rfl rfl rfl ?_
    refine jv_aload_n rfl rfl rfl (by decide) ?_
    refine jv_geti rfl rfl rfl ⟨by decide, rfl⟩ (by decide) ?_
    refine jv_icmp_ge rfl rfl rfl (fun c5 => ?_) (fun c5 => ?_)
    · refine jv_ldc rfl rfl ?_
      refine jv_ireturn rfl (Or.inl rfl) ?_
      exact kk _ (Or.inl ⟨rfl, fun a1 b1 p q r _ => hv a1 b1 p q r (by omega)⟩)
    · refine jv_iload_n rfl rfl rfl ?_
      refine jv_iconst rfl rfl ?_
      refine jv_iadd rfl rfl ⟨by omega, by omega⟩ ?_
      refine jv_istore_n (fun x => [some (.inr (.inr 7)), some (.inl a), some (.inl x)]) rfl rfl (fun _ => rfl) (fun x2_9 ex2_9 => ?_)
      refine cl_firstIn_l hHμ (by omega) kk (fun b2 hv2 => ?_) 9 x2_9 (by omega) (by omega) (by omega) (fun a1 b1 p q r s => by
        by_cases hh : 10 * a1 + b1 < 10 * a
        · exact hv a1 b1 p q r hh
        · exfalso; omega)
      refine jv_iinc (fun x => [some (.inr (.inr 7)), some (.inl x), some (.inl b2)]) rfl rfl rfl ⟨by omega, by omega⟩ (fun _ => rfl) (fun x1_27 ex1_27 => ?_)
      refine jv_goto rfl rfl ?_
      refine ih x1_27 _ (by omega) (by omega) (by omega) (fun a1 b1 p q r s => hv2 a1 b1 p q r (by omega))
set_option maxRecDepth 10000 in
theorem cl_first {X : jm_X} {d : Nat} {Q : jv_P} {μ : jm_M} {t : Int → Int} (hHμ : jH μ t) (kk : ∀ v, jfq t (t 0) (-1) v → Q [.inl v] μ) : cV X (d + 2) 48 [.inr (.inr 7)] μ Q := by
  refine jv_enter (d := d + 1) jm_p_X4_firstPact [some (.inr (.inr 7)), none, none] rfl rfl rfl (Nat.le_of_ble_eq_true rfl) rfl rfl ?_
  refine jv_iconst rfl rfl ?_
  refine jv_istore_nK (L2 := [some (.inr (.inr 7)), some (.inl 0), none]) rfl rfl rfl ?_
  exact cl_first_l hHμ kk 9 0 _ (by omega) hHμ.1.1.1 (by have := hHμ.1.1.2; omega) (fun a1 b1 p q r s => by exfalso; omega)
set_option maxRecDepth 10000 in
theorem mo_pactIn_l {X : jm_X} {d : Nat} {Q : jv_P} {t : Int → Int} {μ : jm_M} {wt a z0 : Int} (hU : jU μ t) (hw : jt_wf t) (ha : 0 ≤ a ∧ a < t 0) (hz0 : 0 ≤ z0 ∧ z0 ≤ 100) (k : ∀ f b : Int, jfq t (t 0) (10 * a) f → jV X (d + 1) jm_p_X10_pacts Q 64 [some (.inr (.inr 94)), some (.inl wt), some (.inl (z0 + jpR t a)), some (.inl f), some (.inl a), some (.inl b)] [] μ) : ∀ (n : Nat) (m f b : Int), a ≤ b → b < t 0 → b - a < n → m = z0 + (jpR t a - jsum (jpr t a) (b + 1).toNat) → jfq t (t 0) (10 * a + b) f → jV X (d + 1) jm_p_X10_pacts Q 33 [some (.inr (.inr 94)), some (.inl wt), some (.inl m), some (.inl f), some (.inl a), some (.inl b)] [] μ := by
  have w0 := hw.1
  have u0 := hU 0 (by decide) (by decide)
  have hs0 : ∀ k, 0 ≤ k → k < 62 → t k = (fun k => μ 95 (0 + k)) k := fun k p q => by
    show t k = μ 95 (0 + k)
    rw [Int.zero_add, hU k p q]
  have hwf0 : jt_wf (fun k => μ 95 (0 + k)) := jt_wf_congr hs0 hw
  intro n
  induction n with
  | zero => intro m f b y0 y1 yn em hf; exfalso; omega
  | succ n ih =>
    intro m f b y0 y1 yn em hf
    have hr := jpr_s (t := t) (a := a) (b + 1).toNat (by omega)
    have hR := jpr_s (t := t) (a := a) (t 0).toNat (by omega)
    have hR2 : jpR t a = jsum (jpr t a) (t 0).toNat := rfl
    have hone := jt_one_congr hs0 hw (a := a) (b := b) (by omega) (by omega) (by omega) (by omega)
    have es : a < b → jsum (jpr t a) (b + 1).toNat = jsum (jpr t a) (b - 1 + 1).toNat + jo t a b := fun q => by
      rw [show (b + 1).toNat = b.toNat + 1 by omega, show (b - 1 + 1).toNat = b.toNat by omega]
      simp only [jsum]
      rw [show ((b.toNat : Nat) : Int) = b by omega]
      have eo : jpr t a b = jo t a b := if_pos q
      rw [eo]
    refine jv_iload rfl rfl rfl ?_
    refine jv_iload rfl rfl rfl ?_
    refine jv_icmp_le rfl rfl rfl (fun c35 => ?_) (fun c35 => ?_)
    · have hx : b = a := by omega
      have e0 := jpr_0 (t := t) (a := a) (b + 1).toNat (by omega)
      have em2 : m = z0 + jpR t a := by omega
      rw [em2]
      exact k f b (jfq_down (by omega) (fun a1 b1 p q r s u => by exfalso; omega) hf)
    · refine jv_iload_n rfl rfl rfl ?_
      refine jv_aload_n rfl rfl rfl (by decide) ?_
      refine jv_iconst rfl rfl ?_
      refine jv_iload rfl rfl rfl ?_
      refine jv_iload rfl rfl rfl ?_
      refine jv_callV3 rfl rfl rfl rfl ⟨by decide, rfl⟩ (Nat.le_of_ble_eq_true rfl) (mo_areAtOne (by omega) (by omega) (by omega) hwf0 (fun b41 => ?_) (fun b41 => ?_))
      · show jV _ _ jm_p_X10_pacts _ 42 [some (.inr (.inr 94)), some (.inl wt), some (.inl m), some (.inl f), some (.inl a), some (.inl b)] [.inl 1, .inl m] μ
        refine jv_if_eqF rfl rfl (by decide) ?_
        refine jv_iconst rfl rfl ?_
        refine jv_goto rfl rfl ?_
        refine jv_iadd rfl rfl ⟨by omega, by omega⟩ ?_
        refine jv_istore_n (fun x => [some (.inr (.inr 94)), some (.inl wt), some (.inl x), some (.inl f), some (.inl a), some (.inl b)]) rfl rfl (fun _ => rfl) (fun x2_47 ex2_47 => ?_)
        refine jv_aload_n rfl rfl rfl (by decide) ?_
        refine jv_iconst rfl rfl ?_
        refine jv_iload rfl rfl rfl ?_
        refine jv_iload rfl rfl rfl ?_
        refine jv_callV3 rfl rfl rfl rfl ⟨by decide, rfl⟩ (Nat.le_of_ble_eq_true rfl) (mo_areAtOne (by omega) (by omega) (by omega) hwf0 (fun b52 => ?_) (fun b52 => ?_))
        · show jV _ _ jm_p_X10_pacts _ 53 [some (.inr (.inr 94)), some (.inl wt), some (.inl x2_47), some (.inl f), some (.inl a), some (.inl b)] [.inl 1] μ
          refine jv_if_eqF rfl rfl (by decide) ?_
          refine jv_bipush rfl rfl ?_
          refine jv_iload rfl rfl rfl ?_
          refine jv_imul rfl rfl ⟨by omega, by omega⟩ ?_
          refine jv_iload rfl rfl rfl ?_
          refine jv_iadd rfl rfl ⟨by omega, by omega⟩ ?_
          refine jv_goto rfl rfl ?_
          refine jv_istore_n (fun x => [some (.inr (.inr 94)), some (.inl wt), some (.inl x2_47), some (.inl x), some (.inl a), some (.inl b)]) rfl rfl (fun _ => rfl) (fun x3_61 ex3_61 => ?_)
          refine jv_iinc (fun x => [some (.inr (.inr 94)), some (.inl wt), some (.inl x2_47), some (.inl x3_61), some (.inl a), some (.inl x)]) rfl rfl rfl ⟨by omega, by omega⟩ (fun _ => rfl) (fun x5_62 ex5_62 => ?_)
          refine jv_goto rfl rfl ?_
          have es2 := es (by omega)
          first
          | (have h1 : jt_one t a b := hone.2 b41.2
             rw [jo_pos h1] at es2
             have h2 : x3_61 = 10 * a + b := by omega
             refine ih x2_47 x3_61 x5_62 (by omega) (by omega) (by omega) (by rw [ex5_62, show b + -1 = b - 1 by omega]; omega) ?_
             rw [ex5_62, show b + -1 = b - 1 by omega, h2]
             exact Or.inr ⟨a, b, by omega, h1, rfl, fun a1 b1 p q r s u => by exfalso; omega⟩)
          | (have h1 : ¬ jt_one t a b := fun q => b41 ⟨by omega, hone.1 q⟩
             rw [jo_neg h1] at es2
             have h2 : x3_61 = f := by omega
             refine ih x2_47 x3_61 x5_62 (by omega) (by omega) (by omega) (by rw [ex5_62, show b + -1 = b - 1 by omega]; omega) ?_
             rw [ex5_62, show b + -1 = b - 1 by omega, h2]
             exact jfq_down (by omega) (fun a1 b1 p q r s u => by rw [show a1 = a by omega, show b1 = b by omega]; exact h1) hf)
          | (exfalso; contradiction)
        · show jV _ _ jm_p_X10_pacts _ 53 [some (.inr (.inr 94)), some (.inl wt), some (.inl x2_47), some (.inl f), some (.inl a), some (.inl b)] [.inl 0] μ
          refine jv_if_eqT rfl rfl (by decide) ?_
          refine jv_iload_n rfl rfl rfl ?_
          refine jv_istore_n (fun x => [some (.inr (.inr 94)), some (.inl wt), some (.inl x2_47), some (.inl x), some (.inl a), some (.inl b)]) rfl rfl (fun _ => rfl) (fun x3_61_1 ex3_61_1 => ?_)
          refine jv_iinc (fun x => [some (.inr (.inr 94)), some (.inl wt), some (.inl x2_47), some (.inl x3_61_1), some (.inl a), some (.inl x)]) rfl rfl rfl ⟨by omega, by omega⟩ (fun _ => rfl) (fun x5_62_1 ex5_62_1 => ?_)
          refine jv_goto rfl rfl ?_
          have es2 := es (by omega)
          first
          | (have h1 : jt_one t a b := hone.2 b41.2
             rw [jo_pos h1] at es2
             have h2 : x3_61_1 = 10 * a + b := by omega
             refine ih x2_47 x3_61_1 x5_62_1 (by omega) (by omega) (by omega) (by rw [ex5_62_1, show b + -1 = b - 1 by omega]; omega) ?_
             rw [ex5_62_1, show b + -1 = b - 1 by omega, h2]
             exact Or.inr ⟨a, b, by omega, h1, rfl, fun a1 b1 p q r s u => by exfalso; omega⟩)
          | (have h1 : ¬ jt_one t a b := fun q => b41 ⟨by omega, hone.1 q⟩
             rw [jo_neg h1] at es2
             have h2 : x3_61_1 = f := by omega
             refine ih x2_47 x3_61_1 x5_62_1 (by omega) (by omega) (by omega) (by rw [ex5_62_1, show b + -1 = b - 1 by omega]; omega) ?_
             rw [ex5_62_1, show b + -1 = b - 1 by omega, h2]
             exact jfq_down (by omega) (fun a1 b1 p q r s u => by rw [show a1 = a by omega, show b1 = b by omega]; exact h1) hf)
          | (exfalso; contradiction)
      · show jV _ _ jm_p_X10_pacts _ 42 [some (.inr (.inr 94)), some (.inl wt), some (.inl m), some (.inl f), some (.inl a), some (.inl b)] [.inl 0, .inl m] μ
        refine jv_if_eqT rfl rfl (by decide) ?_
        refine jv_iconst rfl rfl ?_
        refine jv_iadd rfl rfl ⟨by omega, by omega⟩ ?_
        refine jv_istore_n (fun x => [some (.inr (.inr 94)), some (.inl wt), some (.inl x), some (.inl f), some (.inl a), some (.inl b)]) rfl rfl (fun _ => rfl) (fun x2_47_1 ex2_47_1 => ?_)
        refine jv_aload_n rfl rfl rfl (by decide) ?_
        refine jv_iconst rfl rfl ?_
        refine jv_iload rfl rfl rfl ?_
        refine jv_iload rfl rfl rfl ?_
        refine jv_callV3 rfl rfl rfl rfl ⟨by decide, rfl⟩ (Nat.le_of_ble_eq_true rfl) (mo_areAtOne (by omega) (by omega) (by omega) hwf0 (fun b52_1 => ?_) (fun b52_1 => ?_))
        · show jV _ _ jm_p_X10_pacts _ 53 [some (.inr (.inr 94)), some (.inl wt), some (.inl x2_47_1), some (.inl f), some (.inl a), some (.inl b)] [.inl 1] μ
          refine jv_if_eqF rfl rfl (by decide) ?_
          refine jv_bipush rfl rfl ?_
          refine jv_iload rfl rfl rfl ?_
          refine jv_imul rfl rfl ⟨by omega, by omega⟩ ?_
          refine jv_iload rfl rfl rfl ?_
          refine jv_iadd rfl rfl ⟨by omega, by omega⟩ ?_
          refine jv_goto rfl rfl ?_
          refine jv_istore_n (fun x => [some (.inr (.inr 94)), some (.inl wt), some (.inl x2_47_1), some (.inl x), some (.inl a), some (.inl b)]) rfl rfl (fun _ => rfl) (fun x3_61_2 ex3_61_2 => ?_)
          refine jv_iinc (fun x => [some (.inr (.inr 94)), some (.inl wt), some (.inl x2_47_1), some (.inl x3_61_2), some (.inl a), some (.inl x)]) rfl rfl rfl ⟨by omega, by omega⟩ (fun _ => rfl) (fun x5_62_2 ex5_62_2 => ?_)
          refine jv_goto rfl rfl ?_
          have es2 := es (by omega)
          first
          | (have h1 : jt_one t a b := hone.2 b41.2
             rw [jo_pos h1] at es2
             have h2 : x3_61_2 = 10 * a + b := by omega
             refine ih x2_47_1 x3_61_2 x5_62_2 (by omega) (by omega) (by omega) (by rw [ex5_62_2, show b + -1 = b - 1 by omega]; omega) ?_
             rw [ex5_62_2, show b + -1 = b - 1 by omega, h2]
             exact Or.inr ⟨a, b, by omega, h1, rfl, fun a1 b1 p q r s u => by exfalso; omega⟩)
          | (have h1 : ¬ jt_one t a b := fun q => b41 ⟨by omega, hone.1 q⟩
             rw [jo_neg h1] at es2
             have h2 : x3_61_2 = f := by omega
             refine ih x2_47_1 x3_61_2 x5_62_2 (by omega) (by omega) (by omega) (by rw [ex5_62_2, show b + -1 = b - 1 by omega]; omega) ?_
             rw [ex5_62_2, show b + -1 = b - 1 by omega, h2]
             exact jfq_down (by omega) (fun a1 b1 p q r s u => by rw [show a1 = a by omega, show b1 = b by omega]; exact h1) hf)
          | (exfalso; contradiction)
        · show jV _ _ jm_p_X10_pacts _ 53 [some (.inr (.inr 94)), some (.inl wt), some (.inl x2_47_1), some (.inl f), some (.inl a), some (.inl b)] [.inl 0] μ
          refine jv_if_eqT rfl rfl (by decide) ?_
          refine jv_iload_n rfl rfl rfl ?_
          refine jv_istore_n (fun x => [some (.inr (.inr 94)), some (.inl wt), some (.inl x2_47_1), some (.inl x), some (.inl a), some (.inl b)]) rfl rfl (fun _ => rfl) (fun x3_61_3 ex3_61_3 => ?_)
          refine jv_iinc (fun x => [some (.inr (.inr 94)), some (.inl wt), some (.inl x2_47_1), some (.inl x3_61_3), some (.inl a), some (.inl x)]) rfl rfl rfl ⟨by omega, by omega⟩ (fun _ => rfl) (fun x5_62_3 ex5_62_3 => ?_)
          refine jv_goto rfl rfl ?_
          have es2 := es (by omega)
          first
          | (have h1 : jt_one t a b := hone.2 b41.2
             rw [jo_pos h1] at es2
             have h2 : x3_61_3 = 10 * a + b := by omega
             refine ih x2_47_1 x3_61_3 x5_62_3 (by omega) (by omega) (by omega) (by rw [ex5_62_3, show b + -1 = b - 1 by omega]; omega) ?_
             rw [ex5_62_3, show b + -1 = b - 1 by omega, h2]
             exact Or.inr ⟨a, b, by omega, h1, rfl, fun a1 b1 p q r s u => by exfalso; omega⟩)
          | (have h1 : ¬ jt_one t a b := fun q => b41 ⟨by omega, hone.1 q⟩
             rw [jo_neg h1] at es2
             have h2 : x3_61_3 = f := by omega
             refine ih x2_47_1 x3_61_3 x5_62_3 (by omega) (by omega) (by omega) (by rw [ex5_62_3, show b + -1 = b - 1 by omega]; omega) ?_
             rw [ex5_62_3, show b + -1 = b - 1 by omega, h2]
             exact jfq_down (by omega) (fun a1 b1 p q r s u => by rw [show a1 = a by omega, show b1 = b by omega]; exact h1) hf)
          | (exfalso; contradiction)
theorem jsum_mono {F : Int → Int} (h : ∀ x : Nat, 0 ≤ F x) {a b : Nat} (hab : a ≤ b) : jsum F a ≤ jsum F b := by
  induction hab with
  | refl => exact Int.le_refl _
  | step _ ih =>
    simp only [jsum]
    rename_i m _
    have q := h m
    omega
set_option maxRecDepth 10000 in
theorem mo_pacts_l {X : jm_X} {d : Nat} {Q : jv_P} {t : Int → Int} {μ : jm_M} {wt : Int} (hU : jU μ t) (hw : jt_wf t) (k : ∀ (f a : Int) (o5 : Option jm_V), jfq t (t 0) (-1) f → jV X (d + 1) jm_p_X10_pacts Q 66 [some (.inr (.inr 94)), some (.inl wt), some (.inl (jsum (jpR t) (t 0).toNat)), some (.inl f), some (.inl a), o5] [] μ) : ∀ (n : Nat) (m f a : Int) (o5 : Option jm_V), -1 ≤ a → a < t 0 → a + 1 < n → m = jsum (jpR t) (t 0).toNat - jsum (jpR t) (a + 1).toNat → jfq t (t 0) (10 * a + 9) f → jV X (d + 1) jm_p_X10_pacts Q 24 [some (.inr (.inr 94)), some (.inl wt), some (.inl m), some (.inl f), some (.inl a), o5] [] μ := by
  have w0 := hw.1
  have u0 := hU 0 (by decide) (by decide)
  have hs0 : ∀ k, 0 ≤ k → k < 62 → t k = (fun k => μ 95 (0 + k)) k := fun k p q => by
    show t k = μ 95 (0 + k)
    rw [Int.zero_add, hU k p q]
  have hwf0 : jt_wf (fun k => μ 95 (0 + k)) := jt_wf_congr hs0 hw
  intro n
  induction n with
  | zero => intro m f a o5 y0 y1 yn em hf; exfalso; omega
  | succ n ih =>
    intro m f a o5 y0 y1 yn em hf
    have hr := jpR_s w0.2 (a + 1).toNat (by omega)
    have hR := jpR_s w0.2 (t 0).toNat (by omega)
    have es : 0 ≤ a → jsum (jpR t) (a + 1).toNat = jsum (jpR t) (a - 1 + 1).toNat + jpR t a := fun q => by
      rw [show (a + 1).toNat = a.toNat + 1 by omega, show (a - 1 + 1).toNat = a.toNat by omega]
      simp only [jsum]
      rw [show ((a.toNat : Nat) : Int) = a by omega]
    have h3 : 0 ≤ a → 0 ≤ jpR t a ∧ jpR t a ≤ 4 := fun _ => jpr_s _ (by omega)
    have h4 : 0 ≤ a → 0 ≤ m ∧ m ≤ 16 := fun q => by
      have q2 := jpR_s w0.2 (a - 1 + 1).toNat (by omega)
      have q3 := jsum_r1 (F := fun x => jpR t x) (M := 4) (a + 1).toNat (fun x _ => jpr_s _ (by omega))
      rw [em]
      have q4 : jsum (jpR t) (a + 1).toNat ≤ jsum (jpR t) (t 0).toNat := jsum_mono (fun x => (jpr_s _ (by omega)).1) (by omega)
      omega
    refine jv_iload rfl rfl rfl ?_
    refine jv_if_lt rfl rfl rfl (fun c25 => ?_) (fun c25 => ?_)
    · have hx : a = -1 := by omega
      have e0 : jsum (jpR t) (a + 1).toNat = 0 := by rw [show (a + 1).toNat = 0 by omega]; rfl
      have em2 : m = jsum (jpR t) (t 0).toNat := by omega
      rw [em2]
      exact k f a _ (jfq_down (by omega) (fun a1 b1 p q r s u => by exfalso; omega) hf)
    · refine jv_aload_n rfl rfl rfl (by decide) ?_
      refine jv_getr (w := 95) rfl rfl rfl ⟨by decide, rfl⟩ rfl rfl ?_
      refine jv_iconst rfl rfl ?_
      refine jv_iaload rfl rfl (by decide) rfl ⟨by omega, by omega⟩ ?_
      refine jv_iconst rfl rfl ?_
      refine jv_isub rfl rfl ⟨by omega, by omega⟩ ?_
      refine jv_istore (fun x => [some (.inr (.inr 94)), some (.inl wt), some (.inl m), some (.inl f), some (.inl a), some (.inl x)]) rfl rfl (fun _ => rfl) (fun x5_32 ex5_32 => ?_)
      have h5 := h4 (by omega)
      refine mo_pactIn_l hU hw (by omega) (z0 := m) (by omega) (fun f2 b2 hf2 => ?_) 9 m f x5_32 (by omega) (by omega) (by omega) ?_ ?_
      rotate_left
      · rw [ex5_32, u0, show (t 0 - 1 + 1).toNat = (t 0).toNat by omega]
        show m = m + (jsum (jpr t a) (t 0).toNat - jsum (jpr t a) (t 0).toNat)
        omega
      · exact jfq_down (by omega) (fun a1 b1 p q r s u => by exfalso; omega) hf
      refine jv_iinc (fun x => [some (.inr (.inr 94)), some (.inl wt), some (.inl (m + jpR t a)), some (.inl f2), some (.inl x), some (.inl b2)]) rfl rfl rfl ⟨by omega, by omega⟩ (fun _ => rfl) (fun x4_64 ex4_64 => ?_)
      refine jv_goto rfl rfl ?_
      have es2 := es (by omega)
      refine ih (m + jpR t a) f2 x4_64 _ (by omega) (by omega) (by omega) ?_ ?_
      · rw [ex4_64, show a + -1 = a - 1 by omega]
        omega
      · rw [ex4_64, show a + -1 = a - 1 by omega]
        exact jfq_down (by omega) (fun a1 b1 p q r s u => by exfalso; omega) hf2
set_option maxRecDepth 10000 in
set_option maxHeartbeats 1000000 in
theorem pr_pacts {X : jm_X} {w : Int} (r_w : jm_r w) : jp X 110 196 [.inl w] := by
  intro μ hI
  obtain ⟨⟨hit, hlan⟩, ⟨ht0, ht1, ht2⟩, ⟨hr0, hr1, hr2⟩, ⟨hst, hfa⟩, htown, hidle, himg, hpast⟩ := id hI
  obtain ⟨hwf, hcf, hkd, hmat, hrel, hh01, hhot, hnc⟩ := id htown
  obtain ⟨⟨r0, r1, r2, r3⟩, rm, rz, rc⟩ := id hrel
  obtain ⟨w0, w1, w2, w3, w4, w6, w7, w8⟩ := id hwf
  have hHμ := jH_of hI
  refine jv_enter (d := 199) jm_p_X9_pacts [some (.inr (.inr 0)), some (.inl w)] rfl rfl rfl (Nat.le_of_ble_eq_true rfl) rfl rfl ?_
  refine jv_aload_n rfl rfl rfl (by decide) ?_
  refine jv_callV0 rfl rfl rfl rfl ⟨by decide, rfl⟩ (Nat.le_of_ble_eq_true rfl) (cl_noHotel (fun b1 => ?_) (fun b1 => ?_))
  · show jV _ _ jm_p_X9_pacts _ 2 [some (.inr (.inr 0)), some (.inl w)] [.inl 1] μ
    refine jv_if_eqF rfl rfl (by decide) ?_
    refine jv_ldc rfl rfl ?_
    refine jv_ireturn rfl (Or.inl rfl) ?_
    refine ⟨_, rfl, ?_⟩
    skip
    refine jv_enter (d := 199) jm_p_X10_pacts [some (.inr (.inr 94)), some (.inl w), none, none, none, none] rfl rfl rfl (Nat.le_of_ble_eq_true rfl) rfl rfl ?_
    refine jv_aload_n rfl rfl rfl (by decide) ?_
    refine jv_geti rfl rfl rfl ⟨by decide, rfl⟩ (by decide) ?_
    refine jv_if_ne rfl rfl rfl (fun c2 => ?_) (fun c2 => ?_)
    · first
      | (exfalso; omega)
      | skip
        refine jv_iload_n rfl rfl rfl ?_
        refine jv_i2l rfl rfl ?_
        refine jv_lconst rfl rfl ?_
        refine jv_lconst rfl rfl ?_
        refine jv_callS3 rfl rfl rfl (Nat.le_of_ble_eq_true rfl) (mo_in (fun b9 => ?_) (fun b9 => ?_))
        · first
          | (exfalso; omega)
          | skip
            show jV _ _ jm_p_X10_pacts _ 10 [some (.inr (.inr 94)), some (.inl w), none, none, none, none] [.inl 1] μ
            refine jv_if_neT rfl rfl (by decide) ?_
            refine jv_iconst rfl rfl ?_
            refine jv_istore_nK (L2 := [some (.inr (.inr 94)), some (.inl w), some (.inl 0), none, none, none]) rfl rfl rfl ?_
            refine jv_ldc rfl rfl ?_
            refine jv_istore_nK (L2 := [some (.inr (.inr 94)), some (.inl w), some (.inl 0), some (.inl (-1000000)), none, none]) rfl rfl rfl ?_
            refine jv_aload_n rfl rfl rfl (by decide) ?_
            refine jv_getr (w := 95) rfl rfl rfl ⟨by decide, rfl⟩ rfl rfl ?_
            refine jv_iconst rfl rfl ?_
            refine jv_iaload rfl rfl (by decide) rfl ⟨by omega, by omega⟩ ?_
            refine jv_iconst rfl rfl ?_
            refine jv_isub rfl rfl ⟨by omega, by omega⟩ ?_
            refine jv_istore (fun x => [some (.inr (.inr 94)), some (.inl w), some (.inl 0), some (.inl (-1000000)), some (.inl x), none]) rfl rfl (fun _ => rfl) (fun x4_23 ex4_23 => ?_)
            exfalso; omega
        · first
          | (exfalso; omega)
          | skip
            show jV _ _ jm_p_X10_pacts _ 10 [some (.inr (.inr 94)), some (.inl w), none, none, none, none] [.inl 0] μ
            refine jv_if_neF rfl rfl (by decide) ?_
            refine jv_ldc rfl rfl ?_
            refine jv_ireturn rfl (Or.inl rfl) ?_
            exact ⟨jv_one (by omega), hI⟩
    · first
      | (exfalso; omega)
      | skip
        refine jv_ldc rfl rfl ?_
        refine jv_ireturn rfl (Or.inl rfl) ?_
        exact ⟨jv_one (by omega), hI⟩
  · show jV _ _ jm_p_X9_pacts _ 2 [some (.inr (.inr 0)), some (.inl w)] [.inl 0] μ
    refine jv_if_eqT rfl rfl (by decide) ?_
    refine jv_iload_n rfl rfl rfl ?_
    refine jv_callS1 rfl rfl rfl (Nat.le_of_ble_eq_true rfl) (cl_neither (fun b6 => ?_) (fun b6 => ?_))
    · show jV _ _ jm_p_X9_pacts _ 7 [some (.inr (.inr 0)), some (.inl w)] [.inl 1] μ
      refine jv_if_eqF rfl rfl (by decide) ?_
      refine jv_ldc rfl rfl ?_
      refine jv_ireturn rfl (Or.inl rfl) ?_
      refine ⟨_, rfl, ?_⟩
      skip
      refine jv_enter (d := 199) jm_p_X10_pacts [some (.inr (.inr 94)), some (.inl w), none, none, none, none] rfl rfl rfl (Nat.le_of_ble_eq_true rfl) rfl rfl ?_
      refine jv_aload_n rfl rfl rfl (by decide) ?_
      refine jv_geti rfl rfl rfl ⟨by decide, rfl⟩ (by decide) ?_
      refine jv_if_ne rfl rfl rfl (fun c2 => ?_) (fun c2 => ?_)
      · first
        | (exfalso; omega)
        | skip
          refine jv_iload_n rfl rfl rfl ?_
          refine jv_i2l rfl rfl ?_
          refine jv_lconst rfl rfl ?_
          refine jv_lconst rfl rfl ?_
          refine jv_callS3 rfl rfl rfl (Nat.le_of_ble_eq_true rfl) (mo_in (fun b9 => ?_) (fun b9 => ?_))
          · first
            | (exfalso; omega)
            | skip
              show jV _ _ jm_p_X10_pacts _ 10 [some (.inr (.inr 94)), some (.inl w), none, none, none, none] [.inl 1] μ
              refine jv_if_neT rfl rfl (by decide) ?_
              refine jv_iconst rfl rfl ?_
              refine jv_istore_nK (L2 := [some (.inr (.inr 94)), some (.inl w), some (.inl 0), none, none, none]) rfl rfl rfl ?_
              refine jv_ldc rfl rfl ?_
              refine jv_istore_nK (L2 := [some (.inr (.inr 94)), some (.inl w), some (.inl 0), some (.inl (-1000000)), none, none]) rfl rfl rfl ?_
              refine jv_aload_n rfl rfl rfl (by decide) ?_
              refine jv_getr (w := 95) rfl rfl rfl ⟨by decide, rfl⟩ rfl rfl ?_
              refine jv_iconst rfl rfl ?_
              refine jv_iaload rfl rfl (by decide) rfl ⟨by omega, by omega⟩ ?_
              refine jv_iconst rfl rfl ?_
              refine jv_isub rfl rfl ⟨by omega, by omega⟩ ?_
              refine jv_istore (fun x => [some (.inr (.inr 94)), some (.inl w), some (.inl 0), some (.inl (-1000000)), some (.inl x), none]) rfl rfl (fun _ => rfl) (fun x4_23 ex4_23 => ?_)
              exfalso; omega
          · first
            | (exfalso; omega)
            | skip
              show jV _ _ jm_p_X10_pacts _ 10 [some (.inr (.inr 94)), some (.inl w), none, none, none, none] [.inl 0] μ
              refine jv_if_neF rfl rfl (by decide) ?_
              refine jv_ldc rfl rfl ?_
              refine jv_ireturn rfl (Or.inl rfl) ?_
              exact ⟨jv_one (by omega), hI⟩
      · first
        | (exfalso; omega)
        | skip
          refine jv_ldc rfl rfl ?_
          refine jv_ireturn rfl (Or.inl rfl) ?_
          exact ⟨jv_one (by omega), hI⟩
    · show jV _ _ jm_p_X9_pacts _ 7 [some (.inr (.inr 0)), some (.inl w)] [.inl 0] μ
      refine jv_if_eqT rfl rfl (by decide) ?_
      refine jv_iload_n rfl rfl rfl ?_
      refine jv_if_ne rfl rfl rfl (fun c11 => ?_) (fun c11 => ?_)
      · refine jv_aload_n rfl rfl rfl (by decide) ?_
        refine jv_getr (w := 7) rfl rfl rfl ⟨by decide, rfl⟩ rfl rfl ?_
        refine jv_callV0 rfl rfl rfl rfl ⟨by decide, rfl⟩ (Nat.le_of_ble_eq_true rfl) (cl_first hHμ (fun r18 hr18 => ?_))
        show jV _ _ jm_p_X9_pacts _ 19 [some (.inr (.inr 0)), some (.inl w)] [.inl r18] μ
        refine jv_ireturn rfl (Or.inl rfl) ?_
        refine ⟨_, rfl, ?_⟩
        skip
        refine jv_enter (d := 199) jm_p_X10_pacts [some (.inr (.inr 94)), some (.inl w), none, none, none, none] rfl rfl rfl (Nat.le_of_ble_eq_true rfl) rfl rfl ?_
        refine jv_aload_n rfl rfl rfl (by decide) ?_
        refine jv_geti rfl rfl rfl ⟨by decide, rfl⟩ (by decide) ?_
        refine jv_if_ne rfl rfl rfl (fun c2 => ?_) (fun c2 => ?_)
        · first
          | (exfalso; omega)
          | skip
            refine jv_iload_n rfl rfl rfl ?_
            refine jv_i2l rfl rfl ?_
            refine jv_lconst rfl rfl ?_
            refine jv_lconst rfl rfl ?_
            refine jv_callS3 rfl rfl rfl (Nat.le_of_ble_eq_true rfl) (mo_in (fun b9 => ?_) (fun b9 => ?_))
            · first
              | (exfalso; omega)
              | skip
                show jV _ _ jm_p_X10_pacts _ 10 [some (.inr (.inr 94)), some (.inl w), none, none, none, none] [.inl 1] μ
                refine jv_if_neT rfl rfl (by decide) ?_
                refine jv_iconst rfl rfl ?_
                refine jv_istore_nK (L2 := [some (.inr (.inr 94)), some (.inl w), some (.inl 0), none, none, none]) rfl rfl rfl ?_
                refine jv_ldc rfl rfl ?_
                refine jv_istore_nK (L2 := [some (.inr (.inr 94)), some (.inl w), some (.inl 0), some (.inl (-1000000)), none, none]) rfl rfl rfl ?_
                refine jv_aload_n rfl rfl rfl (by decide) ?_
                refine jv_getr (w := 95) rfl rfl rfl ⟨by decide, rfl⟩ rfl rfl ?_
                refine jv_iconst rfl rfl ?_
                refine jv_iaload rfl rfl (by decide) rfl ⟨by omega, by omega⟩ ?_
                refine jv_iconst rfl rfl ?_
                refine jv_isub rfl rfl ⟨by omega, by omega⟩ ?_
                refine jv_istore (fun x => [some (.inr (.inr 94)), some (.inl w), some (.inl 0), some (.inl (-1000000)), some (.inl x), none]) rfl rfl (fun _ => rfl) (fun x4_23 ex4_23 => ?_)
                refine mo_pacts_l (t := μ 95) (fun _ _ _ => rfl) hwf (fun f2 a2 o5 hf2 => ?_) 9 0 (-1000000) x4_23 _ (by omega) (by omega) (by omega) ?_ ?_
                rotate_left
                · rw [ex4_23, show (μ 95 0 - 1 + 1).toNat = (μ 95 0).toNat by omega]
                  omega
                · exact Or.inl ⟨rfl, fun a1 b1 p q r s => by exfalso; omega⟩
                refine jv_iload_n rfl rfl rfl ?_
                refine jv_if_ne rfl rfl rfl (fun c67 => ?_) (fun c67 => ?_)
                · first
                  | (exfalso; omega)
                  | skip
                    refine jv_iload_n rfl rfl rfl ?_
                    refine jv_ireturn rfl (Or.inl rfl) ?_
                    exact ⟨jv_one (jfq_one hf2 hr18), hI⟩
                · first
                  | (exfalso; omega)
                  | skip
                    refine jv_iload_n rfl rfl rfl ?_
                    refine jv_goto rfl rfl ?_
                    refine jv_ireturn rfl (Or.inl rfl) ?_
                    exact ⟨jv_one (by omega), hI⟩
            · first
              | (exfalso; omega)
              | skip
                show jV _ _ jm_p_X10_pacts _ 10 [some (.inr (.inr 94)), some (.inl w), none, none, none, none] [.inl 0] μ
                refine jv_if_neF rfl rfl (by decide) ?_
                refine jv_ldc rfl rfl ?_
                refine jv_ireturn rfl (Or.inl rfl) ?_
                exact ⟨jv_one (by omega), hI⟩
        · first
          | (exfalso; omega)
          | skip
            refine jv_ldc rfl rfl ?_
            refine jv_ireturn rfl (Or.inl rfl) ?_
            exact ⟨jv_one (by omega), hI⟩
      · refine jv_aload_n rfl rfl rfl (by decide) ?_
        refine jv_getr (w := 7) rfl rfl rfl ⟨by decide, rfl⟩ rfl rfl ?_
        refine jv_callV0 rfl rfl rfl rfl ⟨by decide, rfl⟩ (Nat.le_of_ble_eq_true rfl) (cl_pactCount hHμ ?_)
        show jV _ _ jm_p_X9_pacts _ 15 [some (.inr (.inr 0)), some (.inl w)] [.inl (jsum (jpR (μ 95)) (μ 95 0).toNat)] μ
        refine jv_goto rfl rfl ?_
        refine jv_ireturn rfl (Or.inl rfl) ?_
        refine ⟨_, rfl, ?_⟩
        skip
        refine jv_enter (d := 199) jm_p_X10_pacts [some (.inr (.inr 94)), some (.inl w), none, none, none, none] rfl rfl rfl (Nat.le_of_ble_eq_true rfl) rfl rfl ?_
        refine jv_aload_n rfl rfl rfl (by decide) ?_
        refine jv_geti rfl rfl rfl ⟨by decide, rfl⟩ (by decide) ?_
        refine jv_if_ne rfl rfl rfl (fun c2 => ?_) (fun c2 => ?_)
        · first
          | (exfalso; omega)
          | skip
            refine jv_iload_n rfl rfl rfl ?_
            refine jv_i2l rfl rfl ?_
            refine jv_lconst rfl rfl ?_
            refine jv_lconst rfl rfl ?_
            refine jv_callS3 rfl rfl rfl (Nat.le_of_ble_eq_true rfl) (mo_in (fun b9 => ?_) (fun b9 => ?_))
            · first
              | (exfalso; omega)
              | skip
                show jV _ _ jm_p_X10_pacts _ 10 [some (.inr (.inr 94)), some (.inl w), none, none, none, none] [.inl 1] μ
                refine jv_if_neT rfl rfl (by decide) ?_
                refine jv_iconst rfl rfl ?_
                refine jv_istore_nK (L2 := [some (.inr (.inr 94)), some (.inl w), some (.inl 0), none, none, none]) rfl rfl rfl ?_
                refine jv_ldc rfl rfl ?_
                refine jv_istore_nK (L2 := [some (.inr (.inr 94)), some (.inl w), some (.inl 0), some (.inl (-1000000)), none, none]) rfl rfl rfl ?_
                refine jv_aload_n rfl rfl rfl (by decide) ?_
                refine jv_getr (w := 95) rfl rfl rfl ⟨by decide, rfl⟩ rfl rfl ?_
                refine jv_iconst rfl rfl ?_
                refine jv_iaload rfl rfl (by decide) rfl ⟨by omega, by omega⟩ ?_
                refine jv_iconst rfl rfl ?_
                refine jv_isub rfl rfl ⟨by omega, by omega⟩ ?_
                refine jv_istore (fun x => [some (.inr (.inr 94)), some (.inl w), some (.inl 0), some (.inl (-1000000)), some (.inl x), none]) rfl rfl (fun _ => rfl) (fun x4_23 ex4_23 => ?_)
                refine mo_pacts_l (t := μ 95) (fun _ _ _ => rfl) hwf (fun f2 a2 o5 hf2 => ?_) 9 0 (-1000000) x4_23 _ (by omega) (by omega) (by omega) ?_ ?_
                rotate_left
                · rw [ex4_23, show (μ 95 0 - 1 + 1).toNat = (μ 95 0).toNat by omega]
                  omega
                · exact Or.inl ⟨rfl, fun a1 b1 p q r s => by exfalso; omega⟩
                refine jv_iload_n rfl rfl rfl ?_
                refine jv_if_ne rfl rfl rfl (fun c67 => ?_) (fun c67 => ?_)
                · first
                  | (exfalso; omega)
                  | skip
                    refine jv_iload_n rfl rfl rfl ?_
                    refine jv_ireturn rfl (Or.inl rfl) ?_
                    exact ⟨jv_one (by omega), hI⟩
                · first
                  | (exfalso; omega)
                  | skip
                    refine jv_iload_n rfl rfl rfl ?_
                    refine jv_goto rfl rfl ?_
                    refine jv_ireturn rfl (Or.inl rfl) ?_
                    exact ⟨jv_one (by omega), hI⟩
            · first
              | (exfalso; omega)
              | skip
                show jV _ _ jm_p_X10_pacts _ 10 [some (.inr (.inr 94)), some (.inl w), none, none, none, none] [.inl 0] μ
                refine jv_if_neF rfl rfl (by decide) ?_
                refine jv_ldc rfl rfl ?_
                refine jv_ireturn rfl (Or.inl rfl) ?_
                exact ⟨jv_one (by omega), hI⟩
        · first
          | (exfalso; omega)
          | skip
            refine jv_ldc rfl rfl ?_
            refine jv_ireturn rfl (Or.inl rfl) ?_
            exact ⟨jv_one (by omega), hI⟩
