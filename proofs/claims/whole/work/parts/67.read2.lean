def jfr (μ0 μ : jm_M) : Prop := ∀ z, (z ≠ 5 ∧ (z < 24 ∨ z = 25 ∨ z = 26 ∨ 40 < z)) → μ z = μ0 z
/-- the draft is the town T, as far as it has been read -/
def jdr (μ : jm_M) (T : Int → Int) : Prop := (μ 24 0 = T 2 ∧ μ 24 1 = T 3 ∧ μ 24 2 = T 0 ∧ μ 24 3 = T 1) ∧ (∀ m, 0 ≤ m → m < T 0 → μ (27 + 2 * m) 0 = T (4 + m)) ∧ (∀ m, 0 ≤ m → m < 4 → ∀ k, 0 ≤ k → k < 6 → μ (28 + 2 * m) k = 0) ∧ (∀ c, 0 ≤ c → c < T 1 → μ (35 + c) 0 = T (32 + c) ∧ μ (35 + c) 1 = T (38 + c) ∧ μ (35 + c) 2 = T (44 + c) ∧ μ (35 + c) 3 = T (50 + c)) ∧ ∀ c, 0 ≤ c → c < 6 → μ (35 + c) 4 = 0
def jtv (T : Int → Int) : Prop := ((0 ≤ T 0 ∧ T 0 ≤ 4) ∧ (0 ≤ T 1 ∧ T 1 ≤ 6) ∧ (0 ≤ T 2 ∧ T 2 ≤ 60) ∧ (0 ≤ T 3 ∧ T 3 ≤ 9)) ∧ (∀ m, 0 ≤ m → m < 4 → 0 ≤ T (4 + m) ∧ T (4 + m) ≤ 5) ∧ (∀ j, 8 ≤ j → j < 32 → T j = 0) ∧ (∀ c, 0 ≤ c → c < 6 → (0 ≤ T (32 + c) ∧ T (32 + c) ≤ 5) ∧ (0 ≤ T (38 + c) ∧ T (38 + c) ≤ 60) ∧ (0 ≤ T (44 + c) ∧ T (44 + c) ≤ 5) ∧ (0 ≤ T (50 + c) ∧ T (50 + c) ≤ 9)) ∧ (∀ c, 0 ≤ c → c < 6 → T (56 + c) = 0) ∧ ∀ c, 0 ≤ c → c < T 1 → 1 ≤ T (32 + c)
def jbad (μ μ2 : jm_M) (N a w : Int) : Prop := jfr μ μ2 ∧ μ2 5 1 = N ∧ μ2 5 2 = a ∧ μ2 5 3 = w
theorem jtv_law {l b : Int} (hl : 1 ≤ l ∧ l ≤ 60) (hb : 1 ≤ b ∧ b ≤ 9) : jtv (jm_u1 (jm_u1 jZ 2 l) 3 b) := by
  have o : ∀ j, j ≠ 2 → j ≠ 3 → jm_u1 (jm_u1 jZ 2 l) 3 b j = 0 := fun j p q => by
    unfold jm_u1
    rw [if_neg q, if_neg p]
    rfl
  have e2 : jm_u1 (jm_u1 jZ 2 l) 3 b 2 = l := rfl
  have e3 : jm_u1 (jm_u1 jZ 2 l) 3 b 3 = b := rfl
  have e0 := o 0 (by decide) (by decide)
  have e1 := o 1 (by decide) (by decide)
  refine ⟨⟨by omega, by omega, by omega, by omega⟩, fun m m0 m1 => by rw [o _ (by omega) (by omega)]; decide, fun j j0 j1 => o _ (by omega) (by omega), fun c c0 c1 => by rw [o _ (by omega) (by omega), o _ (by omega) (by omega), o _ (by omega) (by omega), o _ (by omega) (by omega)]; decide, fun c c0 c1 => o _ (by omega) (by omega), fun c c0 c1 => by exfalso; omega⟩
theorem jtv_mat {T : Int → Int} {v : Int} (h : jtv T) (h4 : T 0 < 4) (hv : 0 ≤ v ∧ v ≤ 5) : jtv (jm_u1 (jm_u1 T (4 + T 0) v) 0 (T 0 + 1)) := by
  obtain ⟨⟨a0, a1, a2, a3⟩, b, c, d, e, f⟩ := h
  have o : ∀ j, j ≠ 0 → j ≠ 4 + T 0 → jm_u1 (jm_u1 T (4 + T 0) v) 0 (T 0 + 1) j = T j := fun j p q => by
    unfold jm_u1
    rw [if_neg p, if_neg q]
  have e0 : jm_u1 (jm_u1 T (4 + T 0) v) 0 (T 0 + 1) 0 = T 0 + 1 := if_pos rfl
  have e1 := o 1 (by decide) (by omega)
  have e2 := o 2 (by decide) (by omega)
  have e3 := o 3 (by decide) (by omega)
  refine ⟨⟨by omega, by omega, by omega, by omega⟩, fun m m0 m1 => ?_, fun j j0 j1 => by rw [o j (by omega) (by omega)]; exact c j j0 j1, fun x x0 x1 => by rw [o _ (by omega) (by omega), o _ (by omega) (by omega), o _ (by omega) (by omega), o _ (by omega) (by omega)]; exact d x x0 x1, fun x x0 x1 => by rw [o _ (by omega) (by omega)]; exact e x x0 x1, fun x x0 x1 => by rw [o _ (by omega) (by omega)]; exact f x x0 (by omega)⟩
  by_cases q : m = T 0
  · have z : jm_u1 (jm_u1 T (4 + T 0) v) 0 (T 0 + 1) (4 + m) = v := by
      unfold jm_u1
      rw [if_neg (by omega), if_pos (by omega)]
    rw [z]
    exact hv
  · rw [o _ (by omega) (by omega)]
    exact b m m0 m1
theorem jdr_mat {μ μ2 : jm_M} {T : Int → Int} {v : Int} (ht : jtv T) (h4 : T 0 < 4) (h : jdr μ T) (f : ∀ z, z ≠ 5 → z ≠ 24 → z ≠ 27 + 2 * T 0 → μ2 z = μ z) (e : μ2 (27 + 2 * T 0) 0 = v) (e24 : μ2 24 = jm_u1 (μ 24) 2 (T 0 + 1)) : jdr μ2 (jm_u1 (jm_u1 T (4 + T 0) v) 0 (T 0 + 1)) := by
  obtain ⟨⟨a0, a1, a2, a3⟩, b, c, d, g⟩ := h
  have t0 := ht.1.1
  have t1 := ht.1.2.1
  have o : ∀ j, j ≠ 0 → j ≠ 4 + T 0 → jm_u1 (jm_u1 T (4 + T 0) v) 0 (T 0 + 1) j = T j := fun j p q => by
    unfold jm_u1
    rw [if_neg p, if_neg q]
  have e0 : jm_u1 (jm_u1 T (4 + T 0) v) 0 (T 0 + 1) 0 = T 0 + 1 := if_pos rfl
  have z1 : μ2 24 0 = μ 24 0 := by rw [e24]; rfl
  have z2 : μ2 24 1 = μ 24 1 := by rw [e24]; rfl
  have z3 : μ2 24 2 = T 0 + 1 := by rw [e24]; rfl
  have z4 : μ2 24 3 = μ 24 3 := by rw [e24]; rfl
  refine ⟨⟨by rw [o 2 (by decide) (by omega)]; omega, by rw [o 3 (by decide) (by omega)]; omega, by omega, by rw [o 1 (by decide) (by omega)]; omega⟩, fun m m0 m1 => ?_, fun m m0 m1 k k0 k1 => by rw [f (28 + 2 * m) (by omega) (by omega) (by omega)]; exact c m m0 m1 k k0 k1, fun x x0 x1 => ?_, fun x x0 x1 => by rw [f _ (by omega) (by omega) (by omega)]; exact g x x0 x1⟩
  · by_cases q : m = T 0
    · have z : jm_u1 (jm_u1 T (4 + T 0) v) 0 (T 0 + 1) (4 + m) = v := by
        unfold jm_u1
        rw [if_neg (by omega), if_pos (by omega)]
      rw [z, q]
      exact e
    · rw [o _ (by omega) (by omega), f _ (by omega) (by omega) (by omega)]
      exact b m m0 (by omega)
  · rw [o 1 (by decide) (by omega)] at x1
    rw [o _ (by omega) (by omega), o _ (by omega) (by omega), o _ (by omega) (by omega), o _ (by omega) (by omega), f _ (by omega) (by omega) (by omega)]
    exact d x x0 x1
theorem jtc4_o {T : Int → Int} {kd s f m j : Int} (h : j ≠ 1 ∧ j ≠ 32 + T 1 ∧ j ≠ 38 + T 1 ∧ j ≠ 44 + T 1 ∧ j ≠ 50 + T 1) : jtc4 T kd s f m j = T j := by
  unfold jtc4 jm_u1
  rw [if_neg h.1, if_neg h.2.2.2.2, if_neg h.2.2.2.1, if_neg h.2.2.1, if_neg h.2.1]
theorem jtc4_n {T : Int → Int} {kd s f m : Int} (h : 0 ≤ T 1) : jtc4 T kd s f m 1 = T 1 + 1 ∧ jtc4 T kd s f m (32 + T 1) = kd ∧ jtc4 T kd s f m (38 + T 1) = s ∧ jtc4 T kd s f m (44 + T 1) = f ∧ jtc4 T kd s f m (50 + T 1) = m := by
  unfold jtc4 jm_u1
  refine ⟨if_pos rfl, ?_, ?_, ?_, ?_⟩
  · rw [if_neg (by omega), if_neg (by omega), if_neg (by omega), if_neg (by omega), if_pos rfl]
  · rw [if_neg (by omega), if_neg (by omega), if_neg (by omega), if_pos rfl]
  · rw [if_neg (by omega), if_neg (by omega), if_pos rfl]
  · rw [if_neg (by omega), if_pos rfl]
theorem jtv_com {T : Int → Int} {kd s f m : Int} (h : jtv T) (h6 : T 1 < 6) (hk : 1 ≤ kd ∧ kd ≤ 5) (hs : 0 ≤ s ∧ s ≤ 30) (hf : 0 ≤ f ∧ f ≤ 5) (hm : 1 ≤ m ∧ m ≤ 9) : jtv (jtc4 T kd s f m) := by
  obtain ⟨⟨a0, a1, a2, a3⟩, b, c, d, e, g⟩ := h
  have o := fun j z => jtc4_o (T := T) (kd := kd) (s := s) (f := f) (m := m) (j := j) z
  obtain ⟨n0, n1, n2, n3, n4⟩ := jtc4_n (T := T) (kd := kd) (s := s) (f := f) (m := m) a1.1
  have e0 := o 0 (by omega)
  have e2 := o 2 (by omega)
  have e3 := o 3 (by omega)
  refine ⟨⟨by omega, by omega, by omega, by omega⟩, fun m m0 m1 => by rw [o _ (by omega)]; exact b m m0 m1, fun j j0 j1 => by rw [o j (by omega)]; exact c j j0 j1, fun x x0 x1 => ?_, fun x x0 x1 => by rw [o _ (by omega)]; exact e x x0 x1, fun x x0 x1 => ?_⟩
  · by_cases q : x = T 1
    · rw [q, n1, n2, n3, n4]
      omega
    · rw [o _ (by omega), o _ (by omega), o _ (by omega), o _ (by omega)]
      exact d x x0 x1
  · by_cases q : x = T 1
    · rw [q, n1]
      omega
    · rw [o _ (by omega)]
      exact g x x0 (by omega)
theorem jdr_com {μ μ2 : jm_M} {T : Int → Int} {kd s f m : Int} (ht : jtv T) (h6 : T 1 < 6) (h : jdr μ T) (fr : ∀ z, z ≠ 5 → z ≠ 24 → z ≠ 35 + T 1 → μ2 z = μ z) (e : μ2 (35 + T 1) 0 = kd ∧ μ2 (35 + T 1) 1 = s ∧ μ2 (35 + T 1) 2 = f ∧ μ2 (35 + T 1) 3 = m ∧ μ2 (35 + T 1) 4 = 0) (e24 : μ2 24 = jm_u1 (μ 24) 3 (T 1 + 1)) : jdr μ2 (jtc4 T kd s f m) := by
  obtain ⟨⟨a0, a1, a2, a3⟩, b, c, d, g⟩ := h
  have t0 := ht.1.1
  have t1 := ht.1.2.1
  have o := fun j z => jtc4_o (T := T) (kd := kd) (s := s) (f := f) (m := m) (j := j) z
  obtain ⟨n0, n1, n2, n3, n4⟩ := jtc4_n (T := T) (kd := kd) (s := s) (f := f) (m := m) t1.1
  have z1 : μ2 24 0 = μ 24 0 := by rw [e24]; rfl
  have z2 : μ2 24 1 = μ 24 1 := by rw [e24]; rfl
  have z3 : μ2 24 2 = μ 24 2 := by rw [e24]; rfl
  have z4 : μ2 24 3 = T 1 + 1 := by rw [e24]; rfl
  have e0 := o 0 (by omega)
  have e2 := o 2 (by omega)
  have e3 := o 3 (by omega)
  refine ⟨⟨by omega, by omega, by omega, by omega⟩, fun m m0 m1 => by rw [o (4 + m) (by omega), fr _ (by omega) (by omega) (by omega)]; exact b m m0 (by omega), fun m m0 m1 k k0 k1 => by rw [fr (28 + 2 * m) (by omega) (by omega) (by omega)]; exact c m m0 m1 k k0 k1, fun x x0 x1 => ?_, fun x x0 x1 => ?_⟩
  · by_cases q : x = T 1
    · rw [q, n1, n2, n3, n4]
      exact ⟨e.1, e.2.1, e.2.2.1, e.2.2.2.1⟩
    · rw [o _ (by omega), o _ (by omega), o _ (by omega), o _ (by omega), fr _ (by omega) (by omega) (by omega)]
      exact d x x0 (by omega)
  · by_cases q : x = T 1
    · rw [q]
      exact e.2.2.2.2
    · rw [fr _ (by omega) (by omega) (by omega)]
      exact g x x0 x1
def jpt (g : Int → Int) (N a : Int) (K : Int → Int → Int → Int → jR) : jR := jbd (jpn g N a 0 30) fun b s => jbd (jps g N b 44) fun b _ => jbd (jpn g N b 0 5) fun b f => jbd (jps g N b 44) fun b _ => jbd (jpn g N b 1 9) fun b m => jbd (jps g N b 59) fun b _ => K b s f m
set_option maxRecDepth 10000 in
theorem cl_readLaw {X : jm_X} {d : Nat} {Q : jv_P} {μ : jm_M} {g : Int → Int} {N : Int} (Rμ : jrd μ g N 0) (Wμ : μ 5 3 = 0) (hd : jdr μ jZ) (k1 : ∀ a l b μ2, jpL g N = (0, a, jm_u1 (jm_u1 jZ 2 l) 3 b) → (1 ≤ l ∧ l ≤ 60) → (1 ≤ b ∧ b ≤ 9) → jrd μ2 g N a → μ2 5 3 = 0 → jdr μ2 (jm_u1 (jm_u1 jZ 2 l) 3 b) → jfr μ μ2 → Q [.inl 1] μ2) (k0 : ∀ w a μ2, jpL g N = (w, a, jZ) → w ≠ 0 → jbad μ μ2 N a w → Q [.inl 0] μ2) : cV X (d + 3) 62 [.inr (.inr 5), .inr (.inr 24)] μ Q := by
  have Gμ : ∀ z, z ≠ 5 → z ≠ 24 → μ z = μ z := fun _ _ _ => rfl
  have V_0_μ : μ 24 = μ 24 := rfl
  refine jv_enter (d := d + 2) jm_p_X6_readLaw [some (.inr (.inr 5)), some (.inr (.inr 24))] rfl rfl rfl (Nat.le_of_ble_eq_true rfl) rfl rfl ?_
  refine jv_aload_n rfl rfl rfl (by decide) ?_
  refine jv_bipush rfl rfl ?_
  refine jv_callV1 rfl rfl rfl rfl ⟨by decide, rfl⟩ (Nat.le_of_ble_eq_true rfl) (cl_takeB Rμ (by decide) (fun μ2 eμ2 oμ2 => ?_) (fun μ2 eμ2 nμ2 => ?_))
  · show jV _ _ jm_p_X6_readLaw _ 3 [some (.inr (.inr 5)), some (.inr (.inr 24))] [.inl 1] μ2
    have Rμ2 : jrd μ2 g N (0 + 1) := oμ2.1
    have Wμ2 : μ2 5 3 = 0 := oμ2.2.2.trans Wμ
    have Gμ2 : ∀ z, z ≠ 5 → z ≠ 24 → μ2 z = μ z := fun z p0 p1 => (oμ2.2.1 z p0).trans (Gμ z p0 p1)
    have V_0_μ2 : μ2 24 = (μ 24) := by rw [oμ2.2.1 24 (by omega), V_0_μ]
    refine jv_if_neT rfl rfl (by decide) ?_
    refine jv_aload_n rfl rfl rfl (by decide) ?_
    refine jv_aload_n rfl rfl rfl (by decide) ?_
    refine jv_iconst rfl rfl ?_
    refine jv_bipush rfl rfl ?_
    refine jv_callV2 rfl rfl rfl rfl ⟨by decide, rfl⟩ (Nat.le_of_ble_eq_true rfl) (cl_takeN Rμ2 (fun b10 v10 μ10 eμ10 lμ10 uμ10 oμ10 => ?_) (fun w10 μ10 eμ10 lμ10 nμ10 => ?_))
    · show jV _ _ jm_p_X6_readLaw _ 11 [some (.inr (.inr 5)), some (.inr (.inr 24))] [.inl v10, .inr (.inr 24)] μ10
      have Rμ10 : jrd μ10 g N b10 := oμ10.1
      have Wμ10 : μ10 5 3 = 0 := oμ10.2.2.trans Wμ2
      have Gμ10 : ∀ z, z ≠ 5 → z ≠ 24 → μ10 z = μ z := fun z p0 p1 => (oμ10.2.1 z p0).trans (Gμ2 z p0 p1)
      have V_0_μ10 : μ10 24 = (μ 24) := by rw [oμ10.2.1 24 (by omega), V_0_μ2]
      refine jv_puti rfl rfl rfl ⟨by decide, rfl⟩ (Or.inl rfl) (fun μ11 eμ11 => ?_)
      have Rμ11 : jrd μ11 g N b10 := jrd_same Rμ10 (by rw [eμ11, jm_off1 (by omega)]) (by rw [eμ11, jm_off1 (by omega)])
      have Wμ11 : μ11 5 3 = 0 := by rw [eμ11, jm_off1 (by omega)]; exact Wμ10
      have V_0_μ11 : μ11 24 = (jm_u1 (μ 24) 0 v10) := by rw [eμ11, jm_uc_self, V_0_μ10]
      have Gμ11 : ∀ z, z ≠ 5 → z ≠ 24 → μ11 z = μ z := fun z p0 p1 => (show μ11 z = μ10 z by rw [eμ11, jm_off1 (by omega)]).trans (Gμ10 z p0 p1)
      refine jv_aload_n rfl rfl rfl (by decide) ?_
      refine jv_geti rfl rfl rfl ⟨by decide, rfl⟩ (by decide) ?_
      rw [show μ11 24 0 = v10 by rw [eμ11, jm_uc_self]; rfl]
      refine jv_iconst rfl rfl ?_
      refine jv_icmp_eqF rfl rfl (by omega) ?_
      refine jv_aload_n rfl rfl rfl (by decide) ?_
      refine jv_bipush rfl rfl ?_
      refine jv_callV1 rfl rfl rfl rfl ⟨by decide, rfl⟩ (Nat.le_of_ble_eq_true rfl) (cl_takeB Rμ11 (by decide) (fun μ18 eμ18 oμ18 => ?_) (fun μ18 eμ18 nμ18 => ?_))
      · show jV _ _ jm_p_X6_readLaw _ 19 [some (.inr (.inr 5)), some (.inr (.inr 24))] [.inl 1] μ18
        have Rμ18 : jrd μ18 g N (b10 + 1) := oμ18.1
        have Wμ18 : μ18 5 3 = 0 := oμ18.2.2.trans Wμ11
        have Gμ18 : ∀ z, z ≠ 5 → z ≠ 24 → μ18 z = μ z := fun z p0 p1 => (oμ18.2.1 z p0).trans (Gμ11 z p0 p1)
        have V_0_μ18 : μ18 24 = (jm_u1 (μ 24) 0 v10) := by rw [oμ18.2.1 24 (by omega), V_0_μ11]
        refine jv_if_neT rfl rfl (by decide) ?_
        refine jv_aload_n rfl rfl rfl (by decide) ?_
        refine jv_aload_n rfl rfl rfl (by decide) ?_
        refine jv_iconst rfl rfl ?_
        refine jv_bipush rfl rfl ?_
        refine jv_callV2 rfl rfl rfl rfl ⟨by decide, rfl⟩ (Nat.le_of_ble_eq_true rfl) (cl_takeN Rμ18 (fun b26 v26 μ26 eμ26 lμ26 uμ26 oμ26 => ?_) (fun w26 μ26 eμ26 lμ26 nμ26 => ?_))
        · show jV _ _ jm_p_X6_readLaw _ 27 [some (.inr (.inr 5)), some (.inr (.inr 24))] [.inl v26, .inr (.inr 24)] μ26
          have Rμ26 : jrd μ26 g N b26 := oμ26.1
          have Wμ26 : μ26 5 3 = 0 := oμ26.2.2.trans Wμ18
          have Gμ26 : ∀ z, z ≠ 5 → z ≠ 24 → μ26 z = μ z := fun z p0 p1 => (oμ26.2.1 z p0).trans (Gμ18 z p0 p1)
          have V_0_μ26 : μ26 24 = (jm_u1 (μ 24) 0 v10) := by rw [oμ26.2.1 24 (by omega), V_0_μ18]
          refine jv_puti rfl rfl rfl ⟨by decide, rfl⟩ (Or.inl rfl) (fun μ27 eμ27 => ?_)
          have Rμ27 : jrd μ27 g N b26 := jrd_same Rμ26 (by rw [eμ27, jm_off1 (by omega)]) (by rw [eμ27, jm_off1 (by omega)])
          have Wμ27 : μ27 5 3 = 0 := by rw [eμ27, jm_off1 (by omega)]; exact Wμ26
          have V_0_μ27 : μ27 24 = (jm_u1 (jm_u1 (μ 24) 0 v10) 1 v26) := by rw [eμ27, jm_uc_self, V_0_μ26]
          have Gμ27 : ∀ z, z ≠ 5 → z ≠ 24 → μ27 z = μ z := fun z p0 p1 => (show μ27 z = μ26 z by rw [eμ27, jm_off1 (by omega)]).trans (Gμ26 z p0 p1)
          refine jv_aload_n rfl rfl rfl (by decide) ?_
          refine jv_geti rfl rfl rfl ⟨by decide, rfl⟩ (by decide) ?_
          rw [show μ27 24 1 = v26 by rw [eμ27, jm_uc_self]; rfl]
          refine jv_iconst rfl rfl ?_
          refine jv_icmp_eqF rfl rfl (by omega) ?_
          refine jv_aload_n rfl rfl rfl (by decide) ?_
          refine jv_bipush rfl rfl ?_
          refine jv_callV1 rfl rfl rfl rfl ⟨by decide, rfl⟩ (Nat.le_of_ble_eq_true rfl) (cl_takeB Rμ27 (by decide) (fun μ34 eμ34 oμ34 => ?_) (fun μ34 eμ34 nμ34 => ?_))
          · show jV _ _ jm_p_X6_readLaw _ 35 [some (.inr (.inr 5)), some (.inr (.inr 24))] [.inl 1] μ34
            have Rμ34 : jrd μ34 g N (b26 + 1) := oμ34.1
            have Wμ34 : μ34 5 3 = 0 := oμ34.2.2.trans Wμ27
            have Gμ34 : ∀ z, z ≠ 5 → z ≠ 24 → μ34 z = μ z := fun z p0 p1 => (oμ34.2.1 z p0).trans (Gμ27 z p0 p1)
            have V_0_μ34 : μ34 24 = (jm_u1 (jm_u1 (μ 24) 0 v10) 1 v26) := by rw [oμ34.2.1 24 (by omega), V_0_μ27]
            refine jv_if_eqF rfl rfl (by decide) ?_
            refine jv_iconst rfl rfl ?_
            refine jv_goto rfl rfl ?_
            refine jv_ireturn rfl (Or.inr ⟨rfl, by decide⟩) ?_
            refine k1 (b26 + 1) v10 v26 μ34 (by
              unfold jpL
              rw [jbd_ok eμ2, jbd_ok eμ10, jbd_ok eμ18, jbd_ok eμ26, jbd_ok eμ34]) lμ10 lμ26 Rμ34 Wμ34 ⟨?_, fun m m0 m1 => ?_, fun m m0 m1 k k0 k1 => ?_, fun c c0 c1 => ?_, fun c c0 c1 => ?_⟩ (fun z q => Gμ34 z q.1 (by omega))
            · rw [V_0_μ34]
              exact ⟨rfl, rfl, hd.1.2.2.1, hd.1.2.2.2⟩
            · exfalso
              have m1 : m < 0 := m1
              omega
            · rw [Gμ34 (28 + 2 * m) (by omega) (by omega)]
              exact hd.2.2.1 m m0 m1 k k0 k1
            · exfalso
              have c1 : c < 0 := c1
              omega
            · rw [Gμ34 (35 + c) (by omega) (by omega)]
              exact hd.2.2.2.2 c c0 c1
          · show jV _ _ jm_p_X6_readLaw _ 35 [some (.inr (.inr 5)), some (.inr (.inr 24))] [.inl 0] μ34
            have Gμ34 : ∀ z, z ≠ 5 → z ≠ 24 → μ34 z = μ z := fun z p0 p1 => (nμ34.1 z p0).trans (Gμ27 z p0 p1)
            refine jv_if_eqT rfl rfl (by decide) ?_
            refine jv_iconst rfl rfl ?_
            refine jv_ireturn rfl (Or.inr ⟨rfl, by decide⟩) ?_
            refine k0 1 b26 μ34 (by
              unfold jpL
              rw [jbd_ok eμ2, jbd_ok eμ10, jbd_ok eμ18, jbd_ok eμ26, jbd_no eμ34 (by decide)]) (by omega) ⟨fun z q => Gμ34 z q.1 (by omega), by exact nμ34.2.1, by exact nμ34.2.2.1, by exact nμ34.2.2.2⟩
        · show jV _ _ jm_p_X6_readLaw _ 27 [some (.inr (.inr 5)), some (.inr (.inr 24))] [.inl (-1), .inr (.inr 24)] μ26
          have Gμ26 : ∀ z, z ≠ 5 → z ≠ 24 → μ26 z = μ z := fun z p0 p1 => (nμ26.1 z p0).trans (Gμ18 z p0 p1)
          refine jv_puti rfl rfl rfl ⟨by decide, rfl⟩ (Or.inl rfl) (fun μ27_1 eμ27_1 => ?_)
          have nμ27_1 : μ27_1 5 = μ26 5 := by rw [eμ27_1, jm_off1 (by omega)]
          have Gμ27_1 : ∀ z, z ≠ 5 → z ≠ 24 → μ27_1 z = μ z := fun z p0 p1 => (show μ27_1 z = μ26 z by rw [eμ27_1, jm_off1 (by omega)]).trans (Gμ26 z p0 p1)
          refine jv_aload_n rfl rfl rfl (by decide) ?_
          refine jv_geti rfl rfl rfl ⟨by decide, rfl⟩ (by decide) ?_
          rw [show μ27_1 24 1 = (-1) by rw [eμ27_1, jm_uc_self]; rfl]
          refine jv_iconst rfl rfl ?_
          refine jv_icmp_eqT rfl rfl (by decide) ?_
          refine jv_iconst rfl rfl ?_
          refine jv_ireturn rfl (Or.inr ⟨rfl, by decide⟩) ?_
          refine k0 w26 (b10 + 1) μ27_1 (by
            unfold jpL
            rw [jbd_ok eμ2, jbd_ok eμ10, jbd_ok eμ18, jbd_no eμ26 (by omega)]) (by omega) ⟨fun z q => Gμ27_1 z q.1 (by omega), by rw [nμ27_1]; exact nμ26.2.1, by rw [nμ27_1]; exact nμ26.2.2.1, by rw [nμ27_1]; exact nμ26.2.2.2⟩
      · show jV _ _ jm_p_X6_readLaw _ 19 [some (.inr (.inr 5)), some (.inr (.inr 24))] [.inl 0] μ18
        have Gμ18 : ∀ z, z ≠ 5 → z ≠ 24 → μ18 z = μ z := fun z p0 p1 => (nμ18.1 z p0).trans (Gμ11 z p0 p1)
        refine jv_if_neF rfl rfl (by decide) ?_
        refine jv_iconst rfl rfl ?_
        refine jv_ireturn rfl (Or.inr ⟨rfl, by decide⟩) ?_
        refine k0 1 b10 μ18 (by
          unfold jpL
          rw [jbd_ok eμ2, jbd_ok eμ10, jbd_no eμ18 (by decide)]) (by omega) ⟨fun z q => Gμ18 z q.1 (by omega), by exact nμ18.2.1, by exact nμ18.2.2.1, by exact nμ18.2.2.2⟩
    · show jV _ _ jm_p_X6_readLaw _ 11 [some (.inr (.inr 5)), some (.inr (.inr 24))] [.inl (-1), .inr (.inr 24)] μ10
      have Gμ10 : ∀ z, z ≠ 5 → z ≠ 24 → μ10 z = μ z := fun z p0 p1 => (nμ10.1 z p0).trans (Gμ2 z p0 p1)
      refine jv_puti rfl rfl rfl ⟨by decide, rfl⟩ (Or.inl rfl) (fun μ11_1 eμ11_1 => ?_)
      have nμ11_1 : μ11_1 5 = μ10 5 := by rw [eμ11_1, jm_off1 (by omega)]
      have Gμ11_1 : ∀ z, z ≠ 5 → z ≠ 24 → μ11_1 z = μ z := fun z p0 p1 => (show μ11_1 z = μ10 z by rw [eμ11_1, jm_off1 (by omega)]).trans (Gμ10 z p0 p1)
      refine jv_aload_n rfl rfl rfl (by decide) ?_
      refine jv_geti rfl rfl rfl ⟨by decide, rfl⟩ (by decide) ?_
      rw [show μ11_1 24 0 = (-1) by rw [eμ11_1, jm_uc_self]; rfl]
      refine jv_iconst rfl rfl ?_
      refine jv_icmp_eqT rfl rfl (by decide) ?_
      refine jv_iconst rfl rfl ?_
      refine jv_ireturn rfl (Or.inr ⟨rfl, by decide⟩) ?_
      refine k0 w10 (0 + 1) μ11_1 (by
        unfold jpL
        rw [jbd_ok eμ2, jbd_no eμ10 (by omega)]) (by omega) ⟨fun z q => Gμ11_1 z q.1 (by omega), by rw [nμ11_1]; exact nμ10.2.1, by rw [nμ11_1]; exact nμ10.2.2.1, by rw [nμ11_1]; exact nμ10.2.2.2⟩
  · show jV _ _ jm_p_X6_readLaw _ 3 [some (.inr (.inr 5)), some (.inr (.inr 24))] [.inl 0] μ2
    have Gμ2 : ∀ z, z ≠ 5 → z ≠ 24 → μ2 z = μ z := fun z p0 p1 => (nμ2.1 z p0).trans (Gμ z p0 p1)
    refine jv_if_neF rfl rfl (by decide) ?_
    refine jv_iconst rfl rfl ?_
    refine jv_ireturn rfl (Or.inr ⟨rfl, by decide⟩) ?_
    refine k0 1 0 μ2 (by
      unfold jpL
      rw [jbd_no eμ2 (by decide)]) (by omega) ⟨fun z q => Gμ2 z q.1 (by omega), by exact nμ2.2.1, by exact nμ2.2.2.1, by exact nμ2.2.2.2⟩
set_option maxRecDepth 10000 in
theorem cl_readTr {X : jm_X} {d : Nat} {Q : jv_P} {μ : jm_M} {g : Int → Int} {N a zc : Int} (hz : jz_com zc) (hz5 : zc ≠ 5 ∧ zc ≠ 6) (Rμ : jrd μ g N a) (Wμ : μ 5 3 = 0) (k1 : ∀ b s f m μ2, (∀ K, jpt g N a K = K b s f m) → (0 ≤ s ∧ s ≤ 30) → (0 ≤ f ∧ f ≤ 5) → (1 ≤ m ∧ m ≤ 9) → jrd μ2 g N b → μ2 5 3 = 0 → μ2 zc = jm_u1 (jm_u1 (jm_u1 (μ zc) 1 s) 2 f) 3 m → (∀ z, z ≠ 5 → z ≠ zc → μ2 z = μ z) → Q [.inl 1] μ2) (k0 : ∀ w b μ2, (∀ K, jpt g N a K = (w, b, jZ)) → w ≠ 0 → (∀ z, z ≠ 5 → z ≠ zc → μ2 z = μ z) → (μ2 5 1 = N ∧ μ2 5 2 = b ∧ μ2 5 3 = w) → Q [.inl 0] μ2) : cV X (d + 3) 65 [.inr (.inr 5), .inr (.inr zc)] μ Q := by
  have Gμ : ∀ z, z ≠ 5 → z ≠ zc → μ z = μ z := fun _ _ _ => rfl
  have V_0_μ : μ zc = μ zc := rfl
  refine jv_enter (d := d + 2) jm_p_X6_readTraits [some (.inr (.inr 5)), some (.inr (.inr zc))] rfl rfl rfl (Nat.le_of_ble_eq_true rfl) rfl rfl ?_
  refine jv_aload_n rfl rfl rfl (by have := hz.2; omega) ?_
  refine jv_aload_n rfl rfl rfl (by decide) ?_
  refine jv_iconst rfl rfl ?_
  refine jv_bipush rfl rfl ?_
  refine jv_callV2 rfl rfl rfl rfl ⟨by decide, rfl⟩ (Nat.le_of_ble_eq_true rfl) (cl_takeN Rμ (fun b4 v4 μ4 eμ4 lμ4 uμ4 oμ4 => ?_) (fun w4 μ4 eμ4 lμ4 nμ4 => ?_))
  · show jV _ _ jm_p_X6_readTraits _ 5 [some (.inr (.inr 5)), some (.inr (.inr zc))] [.inl v4, .inr (.inr zc)] μ4
    have Rμ4 : jrd μ4 g N b4 := oμ4.1
    have Wμ4 : μ4 5 3 = 0 := oμ4.2.2.trans Wμ
    have Gμ4 : ∀ z, z ≠ 5 → z ≠ zc → μ4 z = μ z := fun z p0 p1 => (oμ4.2.1 z p0).trans (Gμ z p0 p1)
    have V_0_μ4 : μ4 zc = (μ zc) := by rw [oμ4.2.1 zc (by omega), V_0_μ]
    refine jv_puti rfl rfl hz.1 ⟨hz.2.1, rfl⟩ (Or.inl rfl) (fun μ5 eμ5 => ?_)
    have Rμ5 : jrd μ5 g N b4 := jrd_same Rμ4 (by rw [eμ5, jm_off1 (by omega)]) (by rw [eμ5, jm_off1 (by omega)])
    have Wμ5 : μ5 5 3 = 0 := by rw [eμ5, jm_off1 (by omega)]; exact Wμ4
    have V_0_μ5 : μ5 zc = (jm_u1 (μ zc) 1 v4) := by rw [eμ5, jm_uc_self, V_0_μ4]
    have Gμ5 : ∀ z, z ≠ 5 → z ≠ zc → μ5 z = μ z := fun z p0 p1 => (show μ5 z = μ4 z by rw [eμ5, jm_off1 (by omega)]).trans (Gμ4 z p0 p1)
    refine jv_aload_n rfl rfl rfl (by have := hz.2; omega) ?_
    refine jv_geti rfl rfl hz.1 ⟨hz.2.1, rfl⟩ (by decide) ?_
    rw [show μ5 zc 1 = v4 by rw [eμ5, jm_uc_self]; rfl]
    refine jv_iconst rfl rfl ?_
    refine jv_icmp_eqF rfl rfl (by omega) ?_
    refine jv_aload_n rfl rfl rfl (by decide) ?_
    refine jv_bipush rfl rfl ?_
    refine jv_callV1 rfl rfl rfl rfl ⟨by decide, rfl⟩ (Nat.le_of_ble_eq_true rfl) (cl_takeB Rμ5 (by decide) (fun μ12 eμ12 oμ12 => ?_) (fun μ12 eμ12 nμ12 => ?_))
    · show jV _ _ jm_p_X6_readTraits _ 13 [some (.inr (.inr 5)), some (.inr (.inr zc))] [.inl 1] μ12
      have Rμ12 : jrd μ12 g N (b4 + 1) := oμ12.1
      have Wμ12 : μ12 5 3 = 0 := oμ12.2.2.trans Wμ5
      have Gμ12 : ∀ z, z ≠ 5 → z ≠ zc → μ12 z = μ z := fun z p0 p1 => (oμ12.2.1 z p0).trans (Gμ5 z p0 p1)
      have V_0_μ12 : μ12 zc = (jm_u1 (μ zc) 1 v4) := by rw [oμ12.2.1 zc (by omega), V_0_μ5]
      refine jv_if_neT rfl rfl (by decide) ?_
      refine jv_aload_n rfl rfl rfl (by have := hz.2; omega) ?_
      refine jv_aload_n rfl rfl rfl (by decide) ?_
      refine jv_iconst rfl rfl ?_
      refine jv_iconst rfl rfl ?_
      refine jv_callV2 rfl rfl rfl rfl ⟨by decide, rfl⟩ (Nat.le_of_ble_eq_true rfl) (cl_takeN Rμ12 (fun b20 v20 μ20 eμ20 lμ20 uμ20 oμ20 => ?_) (fun w20 μ20 eμ20 lμ20 nμ20 => ?_))
      · show jV _ _ jm_p_X6_readTraits _ 21 [some (.inr (.inr 5)), some (.inr (.inr zc))] [.inl v20, .inr (.inr zc)] μ20
        have Rμ20 : jrd μ20 g N b20 := oμ20.1
        have Wμ20 : μ20 5 3 = 0 := oμ20.2.2.trans Wμ12
        have Gμ20 : ∀ z, z ≠ 5 → z ≠ zc → μ20 z = μ z := fun z p0 p1 => (oμ20.2.1 z p0).trans (Gμ12 z p0 p1)
        have V_0_μ20 : μ20 zc = (jm_u1 (μ zc) 1 v4) := by rw [oμ20.2.1 zc (by omega), V_0_μ12]
        refine jv_puti rfl rfl hz.1 ⟨hz.2.1, rfl⟩ (Or.inl rfl) (fun μ21 eμ21 => ?_)
        have Rμ21 : jrd μ21 g N b20 := jrd_same Rμ20 (by rw [eμ21, jm_off1 (by omega)]) (by rw [eμ21, jm_off1 (by omega)])
        have Wμ21 : μ21 5 3 = 0 := by rw [eμ21, jm_off1 (by omega)]; exact Wμ20
        have V_0_μ21 : μ21 zc = (jm_u1 (jm_u1 (μ zc) 1 v4) 2 v20) := by rw [eμ21, jm_uc_self, V_0_μ20]
        have Gμ21 : ∀ z, z ≠ 5 → z ≠ zc → μ21 z = μ z := fun z p0 p1 => (show μ21 z = μ20 z by rw [eμ21, jm_off1 (by omega)]).trans (Gμ20 z p0 p1)
        refine jv_aload_n rfl rfl rfl (by have := hz.2; omega) ?_
        refine jv_geti rfl rfl hz.1 ⟨hz.2.1, rfl⟩ (by decide) ?_
        rw [show μ21 zc 2 = v20 by rw [eμ21, jm_uc_self]; rfl]
        refine jv_iconst rfl rfl ?_
        refine jv_icmp_eqF rfl rfl (by omega) ?_
        refine jv_aload_n rfl rfl rfl (by decide) ?_
        refine jv_bipush rfl rfl ?_
        refine jv_callV1 rfl rfl rfl rfl ⟨by decide, rfl⟩ (Nat.le_of_ble_eq_true rfl) (cl_takeB Rμ21 (by decide) (fun μ28 eμ28 oμ28 => ?_) (fun μ28 eμ28 nμ28 => ?_))
        · show jV _ _ jm_p_X6_readTraits _ 29 [some (.inr (.inr 5)), some (.inr (.inr zc))] [.inl 1] μ28
          have Rμ28 : jrd μ28 g N (b20 + 1) := oμ28.1
          have Wμ28 : μ28 5 3 = 0 := oμ28.2.2.trans Wμ21
          have Gμ28 : ∀ z, z ≠ 5 → z ≠ zc → μ28 z = μ z := fun z p0 p1 => (oμ28.2.1 z p0).trans (Gμ21 z p0 p1)
          have V_0_μ28 : μ28 zc = (jm_u1 (jm_u1 (μ zc) 1 v4) 2 v20) := by rw [oμ28.2.1 zc (by omega), V_0_μ21]
          refine jv_if_neT rfl rfl (by decide) ?_
          refine jv_aload_n rfl rfl rfl (by have := hz.2; omega) ?_
          refine jv_aload_n rfl rfl rfl (by decide) ?_
          refine jv_iconst rfl rfl ?_
          refine jv_bipush rfl rfl ?_
          refine jv_callV2 rfl rfl rfl rfl ⟨by decide, rfl⟩ (Nat.le_of_ble_eq_true rfl) (cl_takeN Rμ28 (fun b36 v36 μ36 eμ36 lμ36 uμ36 oμ36 => ?_) (fun w36 μ36 eμ36 lμ36 nμ36 => ?_))
          · show jV _ _ jm_p_X6_readTraits _ 37 [some (.inr (.inr 5)), some (.inr (.inr zc))] [.inl v36, .inr (.inr zc)] μ36
            have Rμ36 : jrd μ36 g N b36 := oμ36.1
            have Wμ36 : μ36 5 3 = 0 := oμ36.2.2.trans Wμ28
            have Gμ36 : ∀ z, z ≠ 5 → z ≠ zc → μ36 z = μ z := fun z p0 p1 => (oμ36.2.1 z p0).trans (Gμ28 z p0 p1)
            have V_0_μ36 : μ36 zc = (jm_u1 (jm_u1 (μ zc) 1 v4) 2 v20) := by rw [oμ36.2.1 zc (by omega), V_0_μ28]
            refine jv_puti rfl rfl hz.1 ⟨hz.2.1, rfl⟩ (Or.inl rfl) (fun μ37 eμ37 => ?_)
            have Rμ37 : jrd μ37 g N b36 := jrd_same Rμ36 (by rw [eμ37, jm_off1 (by omega)]) (by rw [eμ37, jm_off1 (by omega)])
            have Wμ37 : μ37 5 3 = 0 := by rw [eμ37, jm_off1 (by omega)]; exact Wμ36
            have V_0_μ37 : μ37 zc = (jm_u1 (jm_u1 (jm_u1 (μ zc) 1 v4) 2 v20) 3 v36) := by rw [eμ37, jm_uc_self, V_0_μ36]
            have Gμ37 : ∀ z, z ≠ 5 → z ≠ zc → μ37 z = μ z := fun z p0 p1 => (show μ37 z = μ36 z by rw [eμ37, jm_off1 (by omega)]).trans (Gμ36 z p0 p1)
            refine jv_aload_n rfl rfl rfl (by have := hz.2; omega) ?_
            refine jv_geti rfl rfl hz.1 ⟨hz.2.1, rfl⟩ (by decide) ?_
            rw [show μ37 zc 3 = v36 by rw [eμ37, jm_uc_self]; rfl]
            refine jv_iconst rfl rfl ?_
            refine jv_icmp_eqF rfl rfl (by omega) ?_
            refine jv_aload_n rfl rfl rfl (by decide) ?_
            refine jv_bipush rfl rfl ?_
            refine jv_callV1 rfl rfl rfl rfl ⟨by decide, rfl⟩ (Nat.le_of_ble_eq_true rfl) (cl_takeB Rμ37 (by decide) (fun μ44 eμ44 oμ44 => ?_) (fun μ44 eμ44 nμ44 => ?_))
            · show jV _ _ jm_p_X6_readTraits _ 45 [some (.inr (.inr 5)), some (.inr (.inr zc))] [.inl 1] μ44
              have Rμ44 : jrd μ44 g N (b36 + 1) := oμ44.1
              have Wμ44 : μ44 5 3 = 0 := oμ44.2.2.trans Wμ37
              have Gμ44 : ∀ z, z ≠ 5 → z ≠ zc → μ44 z = μ z := fun z p0 p1 => (oμ44.2.1 z p0).trans (Gμ37 z p0 p1)
              have V_0_μ44 : μ44 zc = (jm_u1 (jm_u1 (jm_u1 (μ zc) 1 v4) 2 v20) 3 v36) := by rw [oμ44.2.1 zc (by omega), V_0_μ37]
              refine jv_if_eqF rfl rfl (by decide) ?_
              refine jv_iconst rfl rfl ?_
              refine jv_goto rfl rfl ?_
              refine jv_ireturn rfl (Or.inr ⟨rfl, by decide⟩) ?_
              exact k1 (b36 + 1) v4 v20 v36 μ44 (fun K => by
                unfold jpt
                rw [jbd_ok eμ4, jbd_ok eμ12, jbd_ok eμ20, jbd_ok eμ28, jbd_ok eμ36, jbd_ok eμ44]) lμ4 lμ20 lμ36 Rμ44 Wμ44 V_0_μ44 (fun z q r => Gμ44 z q r)
            · show jV _ _ jm_p_X6_readTraits _ 45 [some (.inr (.inr 5)), some (.inr (.inr zc))] [.inl 0] μ44
              have Gμ44 : ∀ z, z ≠ 5 → z ≠ zc → μ44 z = μ z := fun z p0 p1 => (nμ44.1 z p0).trans (Gμ37 z p0 p1)
              refine jv_if_eqT rfl rfl (by decide) ?_
              refine jv_iconst rfl rfl ?_
              refine jv_ireturn rfl (Or.inr ⟨rfl, by decide⟩) ?_
              exact k0 1 b36 μ44 (fun K => by
                unfold jpt
                rw [jbd_ok eμ4, jbd_ok eμ12, jbd_ok eμ20, jbd_ok eμ28, jbd_ok eμ36, jbd_no eμ44 (by decide)]) (by omega) (fun z q r => Gμ44 z q r) ⟨by exact nμ44.2.1, by exact nμ44.2.2.1, by exact nμ44.2.2.2⟩
          · show jV _ _ jm_p_X6_readTraits _ 37 [some (.inr (.inr 5)), some (.inr (.inr zc))] [.inl (-1), .inr (.inr zc)] μ36
            have Gμ36 : ∀ z, z ≠ 5 → z ≠ zc → μ36 z = μ z := fun z p0 p1 => (nμ36.1 z p0).trans (Gμ28 z p0 p1)
            refine jv_puti rfl rfl hz.1 ⟨hz.2.1, rfl⟩ (Or.inl rfl) (fun μ37_1 eμ37_1 => ?_)
            have nμ37_1 : μ37_1 5 = μ36 5 := by rw [eμ37_1, jm_off1 (by omega)]
            have Gμ37_1 : ∀ z, z ≠ 5 → z ≠ zc → μ37_1 z = μ z := fun z p0 p1 => (show μ37_1 z = μ36 z by rw [eμ37_1, jm_off1 (by omega)]).trans (Gμ36 z p0 p1)
            refine jv_aload_n rfl rfl rfl (by have := hz.2; omega) ?_
            refine jv_geti rfl rfl hz.1 ⟨hz.2.1, rfl⟩ (by decide) ?_
            rw [show μ37_1 zc 3 = (-1) by rw [eμ37_1, jm_uc_self]; rfl]
            refine jv_iconst rfl rfl ?_
            refine jv_icmp_eqT rfl rfl (by decide) ?_
            refine jv_iconst rfl rfl ?_
            refine jv_ireturn rfl (Or.inr ⟨rfl, by decide⟩) ?_
            exact k0 w36 (b20 + 1) μ37_1 (fun K => by
              unfold jpt
              rw [jbd_ok eμ4, jbd_ok eμ12, jbd_ok eμ20, jbd_ok eμ28, jbd_no eμ36 (by omega)]) (by omega) (fun z q r => Gμ37_1 z q r) ⟨by rw [nμ37_1]; exact nμ36.2.1, by rw [nμ37_1]; exact nμ36.2.2.1, by rw [nμ37_1]; exact nμ36.2.2.2⟩
        · show jV _ _ jm_p_X6_readTraits _ 29 [some (.inr (.inr 5)), some (.inr (.inr zc))] [.inl 0] μ28
          have Gμ28 : ∀ z, z ≠ 5 → z ≠ zc → μ28 z = μ z := fun z p0 p1 => (nμ28.1 z p0).trans (Gμ21 z p0 p1)
          refine jv_if_neF rfl rfl (by decide) ?_
          refine jv_iconst rfl rfl ?_
          refine jv_ireturn rfl (Or.inr ⟨rfl, by decide⟩) ?_
          exact k0 1 b20 μ28 (fun K => by
            unfold jpt
            rw [jbd_ok eμ4, jbd_ok eμ12, jbd_ok eμ20, jbd_no eμ28 (by decide)]) (by omega) (fun z q r => Gμ28 z q r) ⟨by exact nμ28.2.1, by exact nμ28.2.2.1, by exact nμ28.2.2.2⟩
      · show jV _ _ jm_p_X6_readTraits _ 21 [some (.inr (.inr 5)), some (.inr (.inr zc))] [.inl (-1), .inr (.inr zc)] μ20
        have Gμ20 : ∀ z, z ≠ 5 → z ≠ zc → μ20 z = μ z := fun z p0 p1 => (nμ20.1 z p0).trans (Gμ12 z p0 p1)
        refine jv_puti rfl rfl hz.1 ⟨hz.2.1, rfl⟩ (Or.inl rfl) (fun μ21_1 eμ21_1 => ?_)
        have nμ21_1 : μ21_1 5 = μ20 5 := by rw [eμ21_1, jm_off1 (by omega)]
        have Gμ21_1 : ∀ z, z ≠ 5 → z ≠ zc → μ21_1 z = μ z := fun z p0 p1 => (show μ21_1 z = μ20 z by rw [eμ21_1, jm_off1 (by omega)]).trans (Gμ20 z p0 p1)
        refine jv_aload_n rfl rfl rfl (by have := hz.2; omega) ?_
        refine jv_geti rfl rfl hz.1 ⟨hz.2.1, rfl⟩ (by decide) ?_
        rw [show μ21_1 zc 2 = (-1) by rw [eμ21_1, jm_uc_self]; rfl]
        refine jv_iconst rfl rfl ?_
        refine jv_icmp_eqT rfl rfl (by decide) ?_
        refine jv_iconst rfl rfl ?_
        refine jv_ireturn rfl (Or.inr ⟨rfl, by decide⟩) ?_
        exact k0 w20 (b4 + 1) μ21_1 (fun K => by
          unfold jpt
          rw [jbd_ok eμ4, jbd_ok eμ12, jbd_no eμ20 (by omega)]) (by omega) (fun z q r => Gμ21_1 z q r) ⟨by rw [nμ21_1]; exact nμ20.2.1, by rw [nμ21_1]; exact nμ20.2.2.1, by rw [nμ21_1]; exact nμ20.2.2.2⟩
    · show jV _ _ jm_p_X6_readTraits _ 13 [some (.inr (.inr 5)), some (.inr (.inr zc))] [.inl 0] μ12
      have Gμ12 : ∀ z, z ≠ 5 → z ≠ zc → μ12 z = μ z := fun z p0 p1 => (nμ12.1 z p0).trans (Gμ5 z p0 p1)
      refine jv_if_neF rfl rfl (by decide) ?_
      refine jv_iconst rfl rfl ?_
      refine jv_ireturn rfl (Or.inr ⟨rfl, by decide⟩) ?_
      exact k0 1 b4 μ12 (fun K => by
        unfold jpt
        rw [jbd_ok eμ4, jbd_no eμ12 (by decide)]) (by omega) (fun z q r => Gμ12 z q r) ⟨by exact nμ12.2.1, by exact nμ12.2.2.1, by exact nμ12.2.2.2⟩
  · show jV _ _ jm_p_X6_readTraits _ 5 [some (.inr (.inr 5)), some (.inr (.inr zc))] [.inl (-1), .inr (.inr zc)] μ4
    have Gμ4 : ∀ z, z ≠ 5 → z ≠ zc → μ4 z = μ z := fun z p0 p1 => (nμ4.1 z p0).trans (Gμ z p0 p1)
    refine jv_puti rfl rfl hz.1 ⟨hz.2.1, rfl⟩ (Or.inl rfl) (fun μ5_1 eμ5_1 => ?_)
    have nμ5_1 : μ5_1 5 = μ4 5 := by rw [eμ5_1, jm_off1 (by omega)]
    have Gμ5_1 : ∀ z, z ≠ 5 → z ≠ zc → μ5_1 z = μ z := fun z p0 p1 => (show μ5_1 z = μ4 z by rw [eμ5_1, jm_off1 (by omega)]).trans (Gμ4 z p0 p1)
    refine jv_aload_n rfl rfl rfl (by have := hz.2; omega) ?_
    refine jv_geti rfl rfl hz.1 ⟨hz.2.1, rfl⟩ (by decide) ?_
    rw [show μ5_1 zc 1 = (-1) by rw [eμ5_1, jm_uc_self]; rfl]
    refine jv_iconst rfl rfl ?_
    refine jv_icmp_eqT rfl rfl (by decide) ?_
    refine jv_iconst rfl rfl ?_
    refine jv_ireturn rfl (Or.inr ⟨rfl, by decide⟩) ?_
    exact k0 w4 a μ5_1 (fun K => by
      unfold jpt
      rw [jbd_no eμ4 (by omega)]) (by omega) (fun z q r => Gμ5_1 z q r) ⟨by rw [nμ5_1]; exact nμ4.2.1, by rw [nμ5_1]; exact nμ4.2.2.1, by rw [nμ5_1]; exact nμ4.2.2.2⟩
