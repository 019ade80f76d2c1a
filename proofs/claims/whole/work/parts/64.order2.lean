set_option maxRecDepth 10000 in
theorem cl_seekO {X : jm_X} {d : Nat} {Q : jv_P} {μ : jm_M} {t : Int → Int} {n : Nat} {K : Int} (hHμ : jH μ t) (hcf : jt_cf t K) (hn : (n : Int) = t 1) (h6 : n ≤ 6) (k : ∀ μ2, jf μ μ2 → jto μ2 (jdf (jco t) n n [] (361, [])) n → Q [] μ2) : cV X (d + 20) 13 [.inr (.inr 49), .inr (.inr 7)] μ Q := by
  refine jv_enter (d := d + 19) jm_p_X2_seekOrder [some (.inr (.inr 49)), some (.inr (.inr 7))] rfl rfl rfl (Nat.le_of_ble_eq_true rfl) rfl rfl ?_
  refine jv_aload_n rfl rfl rfl (by decide) ?_
  refine jv_sipush rfl rfl ?_
  refine jv_puti rfl rfl rfl ⟨by decide, rfl⟩ (Or.inl rfl) (fun μ2 eμ2 => ?_)
  have hHμ2 : jH μ2 t := jH_congr (fun z a b => by rw [eμ2, jm_off1 (by omega)]) hHμ
  refine jv_aload_n rfl rfl rfl (by decide) ?_
  refine jv_getr (w := 50) rfl rfl rfl ⟨by decide, rfl⟩ rfl rfl ?_
  refine jv_aload_n rfl rfl rfl (by decide) ?_
  refine jv_callV1 rfl rfl rfl rfl ⟨by decide, rfl⟩ (Nat.le_of_ble_eq_true rfl) (cl_beginT50 hHμ2 (fun μ6 fμ6 jμ6 lμ6 => ?_))
  show jV _ _ jm_p_X2_seekOrder _ 7 [some (.inr (.inr 49)), some (.inr (.inr 7))] [] μ6
  have hHμ6 := jH_congr (fun z a b => fμ6 z (by omega) (by omega) (by omega)) hHμ2
  have n3μ6 := jH_3 hHμ6
  have n2μ6 := jH_2 hHμ6
  refine jv_aload_n rfl rfl rfl (by decide) ?_
  refine jv_aload_n rfl rfl rfl (by decide) ?_
  refine jv_iconst rfl rfl ?_
  refine jv_iconst rfl rfl ?_
  refine jv_iconst rfl rfl ?_
  refine jv_callV4 rfl rfl rfl rfl ⟨by decide, rfl⟩ (Nat.le_of_ble_eq_true rfl) (cV_le (show 0 + n + 3 ≤ d + 19 by omega) (cl_tryO hcf hn n 0 _ 0 0 0 [] (361, []) μ6 rfl (by simp) hHμ6 (fun c hc => by cases hc) jtk_0 (fun j j0 j1 => by exfalso; omega) rfl jμ6 ⟨by rw [fμ6 49 (by decide) (by decide) (by decide), eμ2]; rfl, fun z => by exact absurd z (by decide)⟩ (Int.le_refl _) (fun μ12 fμ12 oμ12 pμ12 qμ12 => ?_)))
  show jV _ _ jm_p_X2_seekOrder _ 13 [some (.inr (.inr 49)), some (.inr (.inr 7))] [] μ12
  refine jv_return rfl ?_
  exact k _ (fun z q => by rw [fμ12 z (by omega), fμ6 z (by omega) (by omega) (by omega), eμ2, jm_off1 (by omega)]) oμ12
theorem jF_mid {p r : List Int} {c : Int} : jF_ (p ++ c :: r) p.length = c := by
  unfold jF_
  rw [List.getD_eq_getElem?_getD, show ((p.length : Nat) : Int).toNat = p.length by omega, List.getElem?_append_right (Nat.le_refl _), Nat.sub_self]
  rfl
def jrl (μ0 μ : jm_M) : Prop := (∀ z, z ≠ 95 → z ≠ 102 → z ≠ 103 → μ z = μ0 z) ∧ ∀ j, j < 1674 → μ 95 j = μ0 95 j
theorem jck_c {n : Nat} {a : List Int} {r : List (List Int)} (h : jck n (a :: r) = true) : a.length = n ∧ ∀ x ∈ a, 0 ≤ x ∧ x < (n : Int) := by
  unfold jck at h
  rw [Bool.and_eq_true, Bool.and_eq_true] at h
  refine ⟨by simpa using h.1.1, fun x hx => ?_⟩
  have q := List.all_eq_true.1 h.1.2 x hx
  simpa using q
theorem jck_n {n : Nat} {a : List Int} (h : jck n [a] = true) : jnk (jF_ a) (n - 1) < 0 := by
  unfold jck at h
  rw [Bool.and_eq_true] at h
  simpa using h.2
theorem jck_s {n : Nat} {a b : List Int} {r : List (List Int)} (h : jck n (a :: b :: r) = true) : 0 ≤ jnk (jF_ a) (n - 1) ∧ (∀ j : Int, 0 ≤ j → j < n → jnx n (jF_ a) j = jF_ b j) ∧ jck n (b :: r) = true := by
  unfold jck at h
  rw [Bool.and_eq_true] at h
  obtain ⟨-, h⟩ := h
  dsimp only at h
  rw [Bool.and_eq_true, Bool.and_eq_true] at h
  refine ⟨by simpa using h.1, fun j j0 j1 => ?_, h.2.2⟩
  have q := List.all_eq_true.1 h.2.1 j.toNat (List.mem_range.2 (by omega))
  rw [decide_eq_true_iff, show ((j.toNat : Nat) : Int) = j by omega] at q
  exact q
theorem jck_p (n : Nat) (h : n ≤ 6) : ∃ a r, jpm n n [] = a :: r ∧ jck n (a :: r) = true ∧ ∀ j : Int, 0 ≤ j → j < n → jF_ a j = j := by
  have q := jck_ok ⟨n, by omega⟩
  dsimp only at q
  unfold jck0 at q
  rw [Bool.and_eq_true] at q
  cases e : jpm n n [] with
  | nil => rw [e] at q; exact absurd q.2 Bool.false_ne_true
  | cons a r =>
    rw [e] at q
    refine ⟨a, r, rfl, q.1, fun j j0 j1 => ?_⟩
    have z := List.all_eq_true.1 q.2 j.toNat (List.mem_range.2 (by omega))
    rw [decide_eq_true_iff, show ((j.toNat : Nat) : Int) = j by omega] at z
    exact z
set_option maxRecDepth 10000 in
theorem mo_orderIn {X : jm_X} {d : Nat} {Q : jv_P} {t : Int → Int} {q n0 le : Int} {a : List Int} {μ0 : jm_M} (hw : jt_wf t) (hcf : jt_cf t 99990) (hn : n0 = t 1) (ha : a.length = n0) (hav : ∀ x ∈ a, 0 ≤ x ∧ x < t 1) (hline : ∀ j, 0 ≤ j → j < n0 → μ0 102 j = jF_ a j) (k : ∀ (w : Int) (μ2 : jm_M), jr μ0 μ2 → jV X (d + 3) jm_p_X10_order Q 48 [some (.inr (.inr 94)), some (.inl q), some (.inl n0), some (.inl le), some (.inl 1), some (.inl (jco t a)), some (.inl w)] [] μ2) : ∀ (s p : List Int) (y w : Int) (μ : jm_M), p ++ s = a → w = p.length → y = (jcl t p).1 → jT μ (jcl t p).2 → jr μ0 μ → jV X (d + 3) jm_p_X10_order Q 33 [some (.inr (.inr 94)), some (.inl q), some (.inl n0), some (.inl le), some (.inl 1), some (.inl y), some (.inl w)] [] μ := by
  have w1 := hw.2.1
  intro s
  induction s with
  | nil =>
    intro p y w μ e ew ey hT hf
    rw [List.append_nil] at e
    rw [e] at ew ey
    refine jv_iload rfl rfl rfl ?_
    refine jv_iload_n rfl rfl rfl ?_
    refine jv_icmp_geT rfl rfl (by omega) ?_
    rw [ey]
    exact k _ _ hf
  | cons c s ih =>
    intro p y w μ e ew ey hT hf
    have hl : a.length = p.length + (s.length + 1) := by rw [← e]; simp
    have hpv : ∀ x ∈ p, 0 ≤ x ∧ x < t 1 := fun x hx => hav x (by rw [← e]; exact List.mem_append_left _ hx)
    have hcv : 0 ≤ c ∧ c < t 1 := hav c (by rw [← e]; exact List.mem_append_right _ (List.mem_cons_self))
    have hi := jcl_inv hw hcf hpv
    have hcf5 : jt_cf (jcl t p).2 100000 := fun x x0 x1 => by have z := hi.2.2.1 x x0 x1; omega
    have hT0 : (jcl t p).2 0 = t 0 := hi.2.1.1
    have hyr := jt_y_r hi.1 (c := c) hcv.1 (by omega) ((jcl t p).2 0).toNat (by have := hi.1.1; omega)
    have hlw : μ 102 w = c := by
      rw [hf.1 102 (by decide), hline w (by omega) (by omega), ← e, ew]
      exact jF_mid
    refine jv_iload rfl rfl rfl ?_
    refine jv_iload_n rfl rfl rfl ?_
    refine jv_icmp_geF rfl rfl (by omega) ?_
    refine jv_iload rfl rfl rfl ?_
    refine jv_aload_n rfl rfl rfl (by decide) ?_
    refine jv_sipush rfl rfl ?_
    refine jv_aload_n rfl rfl rfl (by decide) ?_
    refine jv_getr (w := 102) rfl rfl rfl ⟨by decide, rfl⟩ rfl rfl ?_
    refine jv_iload rfl rfl rfl ?_
    refine jv_iaload rfl rfl (by decide) rfl ⟨by omega, by omega⟩ ?_
    rw [hlw]
    refine jv_callV2 rfl rfl rfl rfl ⟨by decide, rfl⟩ (Nat.le_of_ble_eq_true rfl) (mo_comesT hT ⟨hcv.1, by omega⟩ hi.1 hcf5 (fun μ43 fμ43 tμ43 => ?_))
    show jV _ _ jm_p_X10_order _ 44 [some (.inr (.inr 94)), some (.inl q), some (.inl n0), some (.inl le), some (.inl 1), some (.inl y), some (.inl w)] [.inl (jt_y (jcl t p).2 c ((jcl t p).2 0).toNat), .inl y] μ43
    refine jv_iadd rfl rfl ⟨by omega, by omega⟩ ?_
    refine jv_istore (fun x => [some (.inr (.inr 94)), some (.inl q), some (.inl n0), some (.inl le), some (.inl 1), some (.inl x), some (.inl w)]) rfl rfl (fun _ => rfl) (fun x5_45 ex5_45 => ?_)
    refine jv_iinc (fun x => [some (.inr (.inr 94)), some (.inl q), some (.inl n0), some (.inl le), some (.inl 1), some (.inl x5_45), some (.inl x)]) rfl rfl rfl ⟨by omega, by omega⟩ (fun _ => rfl) (fun x6_46 ex6_46 => ?_)
    refine jv_goto rfl rfl ?_
    refine ih (p ++ [c]) x5_45 x6_46 μ43 (by rw [← e]; simp) (by simp; omega) ?_ ?_ (jr_tr hf fμ43)
    · rw [jcl_app, ex5_45, ey, hT0]
      rfl
    · rw [jcl_app]
      exact tμ43
set_option maxRecDepth 10000 in
set_option maxHeartbeats 1000000 in
theorem mo_order_l {X : jm_X} {d : Nat} {Q : jv_P} {t : Int → Int} {q n0 : Int} {B : jB} {μ0 : jm_M} (hU0 : jU μ0 t) (hw : jt_wf t) (hcf : jt_cf t 99990) (hn : n0 = t 1) (k : ∀ (le : Int) (o5 o6 : Option jm_V) (μ2 : jm_M), le = B.1 → (∀ j, 0 ≤ j → j < n0 → μ2 103 j = jF_ B.2 j) → jrl μ0 μ2 → jV X (d + 4) jm_p_X10_order Q 63 [some (.inr (.inr 94)), some (.inl q), some (.inl n0), some (.inl le), some (.inl 0), o5, o6] [] μ2) : ∀ (r : List (List Int)) (a : List Int) (le : Int) (b : jB) (o5 o6 : Option jm_V) (μ : jm_M), jck n0.toNat (a :: r) = true → (∀ j, 0 ≤ j → j < n0 → μ 102 j = jF_ a j) → ((le = -1000000 ∧ b = (361, [])) ∨ (le = b.1 ∧ (0 ≤ b.1 ∧ b.1 < 361) ∧ ∀ j, 0 ≤ j → j < n0 → μ 103 j = jF_ b.2 j)) → jbf (jco t) (a :: r) b = B → jrl μ0 μ → jV X (d + 4) jm_p_X10_order Q 25 [some (.inr (.inr 94)), some (.inl q), some (.inl n0), some (.inl le), some (.inl 1), o5, o6] [] μ := by
  have w0 := hw.1
  have w1 := hw.2.1
  intro r
  induction r with
  | nil =>
    intro a le b o5 o6 μ hck hline hs hB hf
    have hac := jck_c hck
    have hUμ : jU μ t := fun j j0 j1 => by rw [hf.2 j (by omega)]; exact hU0 j j0 j1
    have u0μ := hUμ 0 (by decide) (by decide)
    have u1μ := hUμ 1 (by decide) (by decide)
    have hcong : jnk (μ 102) (n0.toNat - 1) = jnk (jF_ a) (n0.toNat - 1) ∨ n0 = 0 := by
      by_cases z : n0 = 0
      · exact Or.inr z
      · exact Or.inl (jnk_cong _ (fun j j0 j1 => hline j j0 (by omega)))
    have hi := jcl_inv hw hcf (p := a) (fun x hx => by have z := hac.2 x hx; omega)
    have hcb : 0 ≤ jco t a ∧ jco t a < 361 := by
      have z := hi.2.2.2
      have z2 := hac.1
      unfold jco
      omega
    have hlast : jnk (μ 102) (n0.toNat - 1) < 0 := by
      rcases hcong with z | z
      · rw [z]; exact jck_n hck
      · rw [show n0.toNat - 1 = 0 by omega]; show (-1 : Int) < 0; decide
    refine jv_iload rfl rfl rfl ?_
    refine jv_if_eqF rfl rfl (by decide) ?_
    refine jv_iconst rfl rfl ?_
    refine jv_istoreK (L2 := [some (.inr (.inr 94)), some (.inl q), some (.inl n0), some (.inl le), some (.inl 1), some (.inl 0), o6]) rfl rfl rfl ?_
    refine jv_aload_n rfl rfl rfl (by decide) ?_
    refine jv_callV0 rfl rfl rfl rfl ⟨by decide, rfl⟩ (Nat.le_of_ble_eq_true rfl) (mo_layTried hUμ (fun μ30 fμ30 tμ30 => ?_))
    show jV _ _ jm_p_X10_order _ 31 [some (.inr (.inr 94)), some (.inl q), some (.inl n0), some (.inl le), some (.inl 1), some (.inl 0), o6] [] μ30
    have hUμ30 := jU_jr fμ30 hUμ
    have u0μ30 := hUμ30 0 (by decide) (by decide)
    have u1μ30 := hUμ30 1 (by decide) (by decide)
    refine jv_iconst rfl rfl ?_
    refine jv_istoreK (L2 := [some (.inr (.inr 94)), some (.inl q), some (.inl n0), some (.inl le), some (.inl 1), some (.inl 0), some (.inl 0)]) rfl rfl rfl ?_
    refine mo_orderIn (a := a) hw hcf hn (by omega) (fun x hx => by have z := hac.2 x hx; omega) (fun j j0 j1 => by rw [fμ30.1 102 (by decide)]; exact hline j j0 j1) (fun w33 μ33 f33 => ?_) a [] 0 0 μ30 rfl rfl rfl tμ30 (jr_id _)
    have ff : jr μ μ33 := jr_tr fμ30 f33
    refine jv_iload_n rfl rfl rfl ?_
    refine jv_ldc rfl rfl ?_
    refine jv_icmp_eq rfl rfl rfl (fun c50 => ?_) (fun c50 => ?_)
    · refine jv_iload rfl rfl rfl ?_
      refine jv_istore_n (fun x => [some (.inr (.inr 94)), some (.inl q), some (.inl n0), some (.inl x), some (.inl 1), some (.inl (jco t a)), some (.inl w33)]) rfl rfl (fun _ => rfl) (fun x3_55 ex3_55 => ?_)
      refine jv_aload_n rfl rfl rfl (by decide) ?_
      refine jv_callV0 rfl rfl rfl rfl ⟨by decide, rfl⟩ (Nat.le_of_ble_eq_true rfl) (mo_takeLine (fun μ57 fμ57 gμ57 => ?_))
      show jV _ _ jm_p_X10_order _ 58 [some (.inr (.inr 94)), some (.inl q), some (.inl n0), some (.inl x3_55), some (.inl 1), some (.inl (jco t a)), some (.inl w33)] [] μ57
      refine jv_aload_n rfl rfl rfl (by decide) ?_
      refine jv_iload_n rfl rfl rfl ?_
      have e102 : μ57 102 = μ 102 := by rw [fμ57 102 (by decide), ff.1 102 (by decide)]
      refine jv_callV1 rfl rfl rfl rfl ⟨by decide, rfl⟩ (Nat.le_of_ble_eq_true rfl) (mo_nextLine (by omega) (fun _ => ?_) (fun z => by rw [e102] at z; exact absurd hlast (by omega)))
      show jV _ _ jm_p_X10_order _ 61 [some (.inr (.inr 94)), some (.inl q), some (.inl n0), some (.inl x3_55), some (.inl 1), some (.inl (jco t a)), some (.inl w33)] [.inl 0] μ57
      refine jv_istoreK (L2 := [some (.inr (.inr 94)), some (.inl q), some (.inl n0), some (.inl x3_55), some (.inl 0), some (.inl (jco t a)), some (.inl w33)]) rfl rfl rfl ?_
      refine jv_goto rfl rfl ?_
      have hfz : ∀ z, z ≠ 95 → z ≠ 102 → z ≠ 103 → μ57 z = μ z := fun z p r1 r2 => by rw [fμ57 z r2, ff.1 z p]
      have hfl : jrl μ0 μ57 := ⟨fun z p r1 r2 => by rw [hfz z p r1 r2, hf.1 z p r1 r2], fun j z => by rw [fμ57 95 (by decide), ff.2 j z, hf.2 j z]⟩
      have hup : jup (jco t) a b = (jco t a, a) := by
        unfold jup
        rw [if_pos]
        rcases hs with ⟨z1, z2⟩ | ⟨z1, z2, z3⟩
        · rw [z2]; show jco t a < 361; omega
        · omega
      have h103 : ∀ j, 0 ≤ j → j < n0 → μ57 103 j = jF_ a j := fun j j0 j1 => by rw [gμ57 j j0 (by omega), ff.1 102 (by decide)]; exact hline j j0 j1
      simp only [jbf] at hB
      rw [hup] at hB
      refine jv_iload rfl rfl rfl ?_
      refine jv_if_eqT rfl rfl (by decide) ?_
      exact k x3_55 _ _ μ57 (by rw [← hB]; exact ex3_55) (by rw [← hB]; exact h103) hfl
    · refine jv_iload rfl rfl rfl ?_
      refine jv_iload_n rfl rfl rfl ?_
      refine jv_icmp_ge rfl rfl rfl (fun c53 => ?_) (fun c53 => ?_)
      · refine jv_aload_n rfl rfl rfl (by decide) ?_
        refine jv_iload_n rfl rfl rfl ?_
        have e102 : μ33 102 = μ 102 := ff.1 102 (by decide)
        refine jv_callV1 rfl rfl rfl rfl ⟨by decide, rfl⟩ (Nat.le_of_ble_eq_true rfl) (mo_nextLine (by omega) (fun _ => ?_) (fun z => by rw [e102] at z; exact absurd hlast (by omega)))
        show jV _ _ jm_p_X10_order _ 61 [some (.inr (.inr 94)), some (.inl q), some (.inl n0), some (.inl le), some (.inl 1), some (.inl (jco t a)), some (.inl w33)] [.inl 0] μ33
        refine jv_istoreK (L2 := [some (.inr (.inr 94)), some (.inl q), some (.inl n0), some (.inl le), some (.inl 0), some (.inl (jco t a)), some (.inl w33)]) rfl rfl rfl ?_
        refine jv_goto rfl rfl ?_
        have hfz : ∀ z, z ≠ 95 → z ≠ 102 → z ≠ 103 → μ33 z = μ z := fun z p r1 r2 => by rw [ff.1 z p]
        have hfl : jrl μ0 μ33 := ⟨fun z p r1 r2 => by rw [hfz z p r1 r2, hf.1 z p r1 r2], fun j z => by rw [ff.2 j z, hf.2 j z]⟩
        have hsb : le = b.1 ∧ (0 ≤ b.1 ∧ b.1 < 361) ∧ ∀ j, 0 ≤ j → j < n0 → μ 103 j = jF_ b.2 j := by
          rcases hs with ⟨z1, z2⟩ | z
          · exact absurd z1 (by omega)
          · exact z
        have hup : jup (jco t) a b = b := by
          unfold jup
          rw [if_neg]
          have z := hsb.1
          omega
        have h103 : ∀ j, 0 ≤ j → j < n0 → μ33 103 j = jF_ b.2 j := fun j j0 j1 => by rw [ff.1 103 (by decide)]; exact hsb.2.2 j j0 j1
        simp only [jbf] at hB
        rw [hup] at hB
        refine jv_iload rfl rfl rfl ?_
        refine jv_if_eqT rfl rfl (by decide) ?_
        exact k le _ _ μ33 (by rw [← hB]; exact hsb.1) (by rw [← hB]; exact h103) hfl
      · refine jv_iload rfl rfl rfl ?_
        refine jv_istore_n (fun x => [some (.inr (.inr 94)), some (.inl q), some (.inl n0), some (.inl x), some (.inl 1), some (.inl (jco t a)), some (.inl w33)]) rfl rfl (fun _ => rfl) (fun x3_55_1 ex3_55_1 => ?_)
        refine jv_aload_n rfl rfl rfl (by decide) ?_
        refine jv_callV0 rfl rfl rfl rfl ⟨by decide, rfl⟩ (Nat.le_of_ble_eq_true rfl) (mo_takeLine (fun μ57_1 fμ57_1 gμ57_1 => ?_))
        show jV _ _ jm_p_X10_order _ 58 [some (.inr (.inr 94)), some (.inl q), some (.inl n0), some (.inl x3_55_1), some (.inl 1), some (.inl (jco t a)), some (.inl w33)] [] μ57_1
        refine jv_aload_n rfl rfl rfl (by decide) ?_
        refine jv_iload_n rfl rfl rfl ?_
        have e102 : μ57_1 102 = μ 102 := by rw [fμ57_1 102 (by decide), ff.1 102 (by decide)]
        refine jv_callV1 rfl rfl rfl rfl ⟨by decide, rfl⟩ (Nat.le_of_ble_eq_true rfl) (mo_nextLine (by omega) (fun _ => ?_) (fun z => by rw [e102] at z; exact absurd hlast (by omega)))
        show jV _ _ jm_p_X10_order _ 61 [some (.inr (.inr 94)), some (.inl q), some (.inl n0), some (.inl x3_55_1), some (.inl 1), some (.inl (jco t a)), some (.inl w33)] [.inl 0] μ57_1
        refine jv_istoreK (L2 := [some (.inr (.inr 94)), some (.inl q), some (.inl n0), some (.inl x3_55_1), some (.inl 0), some (.inl (jco t a)), some (.inl w33)]) rfl rfl rfl ?_
        refine jv_goto rfl rfl ?_
        have hfz : ∀ z, z ≠ 95 → z ≠ 102 → z ≠ 103 → μ57_1 z = μ z := fun z p r1 r2 => by rw [fμ57_1 z r2, ff.1 z p]
        have hfl : jrl μ0 μ57_1 := ⟨fun z p r1 r2 => by rw [hfz z p r1 r2, hf.1 z p r1 r2], fun j z => by rw [fμ57_1 95 (by decide), ff.2 j z, hf.2 j z]⟩
        have hup : jup (jco t) a b = (jco t a, a) := by
          unfold jup
          rw [if_pos]
          rcases hs with ⟨z1, z2⟩ | ⟨z1, z2, z3⟩
          · rw [z2]; show jco t a < 361; omega
          · omega
        have h103 : ∀ j, 0 ≤ j → j < n0 → μ57_1 103 j = jF_ a j := fun j j0 j1 => by rw [gμ57_1 j j0 (by omega), ff.1 102 (by decide)]; exact hline j j0 j1
        simp only [jbf] at hB
        rw [hup] at hB
        refine jv_iload rfl rfl rfl ?_
        refine jv_if_eqT rfl rfl (by decide) ?_
        exact k x3_55_1 _ _ μ57_1 (by rw [← hB]; exact ex3_55_1) (by rw [← hB]; exact h103) hfl
  | cons b2 r ih =>
    intro a le b o5 o6 μ hck hline hs hB hf
    have hac := jck_c hck
    have hUμ : jU μ t := fun j j0 j1 => by rw [hf.2 j (by omega)]; exact hU0 j j0 j1
    have u0μ := hUμ 0 (by decide) (by decide)
    have u1μ := hUμ 1 (by decide) (by decide)
    have hcong : jnk (μ 102) (n0.toNat - 1) = jnk (jF_ a) (n0.toNat - 1) ∨ n0 = 0 := by
      by_cases z : n0 = 0
      · exact Or.inr z
      · exact Or.inl (jnk_cong _ (fun j j0 j1 => hline j j0 (by omega)))
    have hi := jcl_inv hw hcf (p := a) (fun x hx => by have z := hac.2 x hx; omega)
    have hcb : 0 ≤ jco t a ∧ jco t a < 361 := by
      have z := hi.2.2.2
      have z2 := hac.1
      unfold jco
      omega
    obtain ⟨hs1, hs2, hs3⟩ := jck_s hck
    have hn1 : n0 ≠ 0 := fun z => by
      rw [show n0.toNat - 1 = 0 by omega] at hs1
      have hs1 : (0 : Int) ≤ -1 := hs1
      omega
    have hgo : 0 ≤ jnk (μ 102) (n0.toNat - 1) := by
      rcases hcong with z | z
      · rw [z]; exact hs1
      · exact absurd z hn1
    have hnx : ∀ j, 0 ≤ j → j < n0 → jnx n0.toNat (μ 102) j = jF_ b2 j := fun j j0 j1 => by
      rw [jnx_cong (n := n0.toNat) (g := jF_ a) (fun i i0 i1 => hline i i0 (by omega)) hgo j j0 (by omega)]
      exact hs2 j j0 (by omega)
    refine jv_iload rfl rfl rfl ?_
    refine jv_if_eqF rfl rfl (by decide) ?_
    refine jv_iconst rfl rfl ?_
    refine jv_istoreK (L2 := [some (.inr (.inr 94)), some (.inl q), some (.inl n0), some (.inl le), some (.inl 1), some (.inl 0), o6]) rfl rfl rfl ?_
    refine jv_aload_n rfl rfl rfl (by decide) ?_
    refine jv_callV0 rfl rfl rfl rfl ⟨by decide, rfl⟩ (Nat.le_of_ble_eq_true rfl) (mo_layTried hUμ (fun μ30 fμ30 tμ30 => ?_))
    show jV _ _ jm_p_X10_order _ 31 [some (.inr (.inr 94)), some (.inl q), some (.inl n0), some (.inl le), some (.inl 1), some (.inl 0), o6] [] μ30
    have hUμ30 := jU_jr fμ30 hUμ
    have u0μ30 := hUμ30 0 (by decide) (by decide)
    have u1μ30 := hUμ30 1 (by decide) (by decide)
    refine jv_iconst rfl rfl ?_
    refine jv_istoreK (L2 := [some (.inr (.inr 94)), some (.inl q), some (.inl n0), some (.inl le), some (.inl 1), some (.inl 0), some (.inl 0)]) rfl rfl rfl ?_
    refine mo_orderIn (a := a) hw hcf hn (by omega) (fun x hx => by have z := hac.2 x hx; omega) (fun j j0 j1 => by rw [fμ30.1 102 (by decide)]; exact hline j j0 j1) (fun w33 μ33 f33 => ?_) a [] 0 0 μ30 rfl rfl rfl tμ30 (jr_id _)
    have ff : jr μ μ33 := jr_tr fμ30 f33
    refine jv_iload_n rfl rfl rfl ?_
    refine jv_ldc rfl rfl ?_
    refine jv_icmp_eq rfl rfl rfl (fun c50 => ?_) (fun c50 => ?_)
    · refine jv_iload rfl rfl rfl ?_
      refine jv_istore_n (fun x => [some (.inr (.inr 94)), some (.inl q), some (.inl n0), some (.inl x), some (.inl 1), some (.inl (jco t a)), some (.inl w33)]) rfl rfl (fun _ => rfl) (fun x3_55 ex3_55 => ?_)
      refine jv_aload_n rfl rfl rfl (by decide) ?_
      refine jv_callV0 rfl rfl rfl rfl ⟨by decide, rfl⟩ (Nat.le_of_ble_eq_true rfl) (mo_takeLine (fun μ57 fμ57 gμ57 => ?_))
      show jV _ _ jm_p_X10_order _ 58 [some (.inr (.inr 94)), some (.inl q), some (.inl n0), some (.inl x3_55), some (.inl 1), some (.inl (jco t a)), some (.inl w33)] [] μ57
      refine jv_aload_n rfl rfl rfl (by decide) ?_
      refine jv_iload_n rfl rfl rfl ?_
      have e102 : μ57 102 = μ 102 := by rw [fμ57 102 (by decide), ff.1 102 (by decide)]
      refine jv_callV1 rfl rfl rfl rfl ⟨by decide, rfl⟩ (Nat.le_of_ble_eq_true rfl) (mo_nextLine (by omega) (fun z => by rw [e102] at z; exact absurd hgo (by omega)) (fun _ μ60 fμ60 gμ60 => ?_))
      show jV _ _ jm_p_X10_order _ 61 [some (.inr (.inr 94)), some (.inl q), some (.inl n0), some (.inl x3_55), some (.inl 1), some (.inl (jco t a)), some (.inl w33)] [.inl 1] μ60
      refine jv_istoreK (L2 := [some (.inr (.inr 94)), some (.inl q), some (.inl n0), some (.inl x3_55), some (.inl 1), some (.inl (jco t a)), some (.inl w33)]) rfl rfl rfl ?_
      refine jv_goto rfl rfl ?_
      have hfz : ∀ z, z ≠ 95 → z ≠ 102 → z ≠ 103 → μ60 z = μ z := fun z p r1 r2 => by rw [fμ60 z r1, fμ57 z r2, ff.1 z p]
      have hfl : jrl μ0 μ60 := ⟨fun z p r1 r2 => by rw [hfz z p r1 r2, hf.1 z p r1 r2], fun j z => by rw [fμ60 95 (by decide), fμ57 95 (by decide), ff.2 j z, hf.2 j z]⟩
      have hup : jup (jco t) a b = (jco t a, a) := by
        unfold jup
        rw [if_pos]
        rcases hs with ⟨z1, z2⟩ | ⟨z1, z2, z3⟩
        · rw [z2]; show jco t a < 361; omega
        · omega
      have h103 : ∀ j, 0 ≤ j → j < n0 → μ60 103 j = jF_ a j := fun j j0 j1 => by rw [fμ60 103 (by decide), gμ57 j j0 (by omega), ff.1 102 (by decide)]; exact hline j j0 j1
      simp only [jbf] at hB
      rw [hup] at hB
      exact ih b2 x3_55 (jco t a, a) _ _ μ60 hs3 (fun j j0 j1 => by rw [gμ60, e102]; exact hnx j j0 j1) (Or.inr ⟨by rw [ex3_55], hcb, h103⟩) (by simp only [jbf]; exact hB) hfl
    · refine jv_iload rfl rfl rfl ?_
      refine jv_iload_n rfl rfl rfl ?_
      refine jv_icmp_ge rfl rfl rfl (fun c53 => ?_) (fun c53 => ?_)
      · refine jv_aload_n rfl rfl rfl (by decide) ?_
        refine jv_iload_n rfl rfl rfl ?_
        have e102 : μ33 102 = μ 102 := ff.1 102 (by decide)
        refine jv_callV1 rfl rfl rfl rfl ⟨by decide, rfl⟩ (Nat.le_of_ble_eq_true rfl) (mo_nextLine (by omega) (fun z => by rw [e102] at z; exact absurd hgo (by omega)) (fun _ μ60_1 fμ60_1 gμ60_1 => ?_))
        show jV _ _ jm_p_X10_order _ 61 [some (.inr (.inr 94)), some (.inl q), some (.inl n0), some (.inl le), some (.inl 1), some (.inl (jco t a)), some (.inl w33)] [.inl 1] μ60_1
        refine jv_istoreK (L2 := [some (.inr (.inr 94)), some (.inl q), some (.inl n0), some (.inl le), some (.inl 1), some (.inl (jco t a)), some (.inl w33)]) rfl rfl rfl ?_
        refine jv_goto rfl rfl ?_
        have hfz : ∀ z, z ≠ 95 → z ≠ 102 → z ≠ 103 → μ60_1 z = μ z := fun z p r1 r2 => by rw [fμ60_1 z r1, ff.1 z p]
        have hfl : jrl μ0 μ60_1 := ⟨fun z p r1 r2 => by rw [hfz z p r1 r2, hf.1 z p r1 r2], fun j z => by rw [fμ60_1 95 (by decide), ff.2 j z, hf.2 j z]⟩
        have hsb : le = b.1 ∧ (0 ≤ b.1 ∧ b.1 < 361) ∧ ∀ j, 0 ≤ j → j < n0 → μ 103 j = jF_ b.2 j := by
          rcases hs with ⟨z1, z2⟩ | z
          · exact absurd z1 (by omega)
          · exact z
        have hup : jup (jco t) a b = b := by
          unfold jup
          rw [if_neg]
          have z := hsb.1
          omega
        have h103 : ∀ j, 0 ≤ j → j < n0 → μ60_1 103 j = jF_ b.2 j := fun j j0 j1 => by rw [fμ60_1 103 (by decide), ff.1 103 (by decide)]; exact hsb.2.2 j j0 j1
        simp only [jbf] at hB
        rw [hup] at hB
        exact ih b2 le b _ _ μ60_1 hs3 (fun j j0 j1 => by rw [gμ60_1, e102]; exact hnx j j0 j1) (Or.inr ⟨hsb.1, hsb.2.1, h103⟩) (by simp only [jbf]; exact hB) hfl
      · refine jv_iload rfl rfl rfl ?_
        refine jv_istore_n (fun x => [some (.inr (.inr 94)), some (.inl q), some (.inl n0), some (.inl x), some (.inl 1), some (.inl (jco t a)), some (.inl w33)]) rfl rfl (fun _ => rfl) (fun x3_55_1 ex3_55_1 => ?_)
        refine jv_aload_n rfl rfl rfl (by decide) ?_
        refine jv_callV0 rfl rfl rfl rfl ⟨by decide, rfl⟩ (Nat.le_of_ble_eq_true rfl) (mo_takeLine (fun μ57_1 fμ57_1 gμ57_1 => ?_))
        show jV _ _ jm_p_X10_order _ 58 [some (.inr (.inr 94)), some (.inl q), some (.inl n0), some (.inl x3_55_1), some (.inl 1), some (.inl (jco t a)), some (.inl w33)] [] μ57_1
        refine jv_aload_n rfl rfl rfl (by decide) ?_
        refine jv_iload_n rfl rfl rfl ?_
        have e102 : μ57_1 102 = μ 102 := by rw [fμ57_1 102 (by decide), ff.1 102 (by decide)]
        refine jv_callV1 rfl rfl rfl rfl ⟨by decide, rfl⟩ (Nat.le_of_ble_eq_true rfl) (mo_nextLine (by omega) (fun z => by rw [e102] at z; exact absurd hgo (by omega)) (fun _ μ60_2 fμ60_2 gμ60_2 => ?_))
        show jV _ _ jm_p_X10_order _ 61 [some (.inr (.inr 94)), some (.inl q), some (.inl n0), some (.inl x3_55_1), some (.inl 1), some (.inl (jco t a)), some (.inl w33)] [.inl 1] μ60_2
        refine jv_istoreK (L2 := [some (.inr (.inr 94)), some (.inl q), some (.inl n0), some (.inl x3_55_1), some (.inl 1), some (.inl (jco t a)), some (.inl w33)]) rfl rfl rfl ?_
        refine jv_goto rfl rfl ?_
        have hfz : ∀ z, z ≠ 95 → z ≠ 102 → z ≠ 103 → μ60_2 z = μ z := fun z p r1 r2 => by rw [fμ60_2 z r1, fμ57_1 z r2, ff.1 z p]
        have hfl : jrl μ0 μ60_2 := ⟨fun z p r1 r2 => by rw [hfz z p r1 r2, hf.1 z p r1 r2], fun j z => by rw [fμ60_2 95 (by decide), fμ57_1 95 (by decide), ff.2 j z, hf.2 j z]⟩
        have hup : jup (jco t) a b = (jco t a, a) := by
          unfold jup
          rw [if_pos]
          rcases hs with ⟨z1, z2⟩ | ⟨z1, z2, z3⟩
          · rw [z2]; show jco t a < 361; omega
          · omega
        have h103 : ∀ j, 0 ≤ j → j < n0 → μ60_2 103 j = jF_ a j := fun j j0 j1 => by rw [fμ60_2 103 (by decide), gμ57_1 j j0 (by omega), ff.1 102 (by decide)]; exact hline j j0 j1
        simp only [jbf] at hB
        rw [hup] at hB
        exact ih b2 x3_55_1 (jco t a, a) _ _ μ60_2 hs3 (fun j j0 j1 => by rw [gμ60_2, e102]; exact hnx j j0 j1) (Or.inr ⟨by rw [ex3_55_1], hcb, h103⟩) (by simp only [jbf]; exact hB) hfl
set_option maxRecDepth 10000 in
set_option maxHeartbeats 1000000 in
theorem pr_order {X : jm_X} {q : Int} (r_q : jm_r q) : jp X 107 192 [.inl q] := by
  intro μ hI
  obtain ⟨⟨hit, hlan⟩, ⟨ht0, ht1, ht2⟩, ⟨hr0, hr1, hr2⟩, ⟨hst, hfa⟩, htown, hidle, himg, hpast⟩ := id hI
  obtain ⟨hwf, hcf, hkd, hmat, hrel, hh01, hhot, hnc⟩ := id htown
  obtain ⟨⟨r0, r1, r2, r3⟩, rm, rz, rc⟩ := id hrel
  obtain ⟨w0, w1, w2, w3, w4, w6, w7, w8⟩ := id hwf
  have hcf9 : jt_cf (μ 95) 99990 := fun c a b => by have q := hcf c a b; omega
  have hHμ := jH_of hI
  have hsh : jm_shl 1 (μ 7 3) = jm_shl 1 (μ 95 1) := by rw [r3]
  have hs6 := jb_shl6 w1.1 w1.2
  have hs4 := jb_shl4 w0.1 w0.2
  refine jv_enter (d := 199) jm_p_X9_order [some (.inr (.inr 0)), some (.inl q)] rfl rfl rfl (Nat.le_of_ble_eq_true rfl) rfl rfl ?_
  refine jv_aload_n rfl rfl rfl (by decide) ?_
  refine jv_callV0 rfl rfl rfl rfl ⟨by decide, rfl⟩ (Nat.le_of_ble_eq_true rfl) (cl_noHotel (fun b1 => ?_) (fun b1 => ?_))
  · show jV _ _ jm_p_X9_order _ 2 [some (.inr (.inr 0)), some (.inl q)] [.inl 1] μ
    refine jv_if_eqF rfl rfl (by decide) ?_
    refine jv_ldc rfl rfl ?_
    refine jv_ireturn rfl (Or.inl rfl) ?_
    refine ⟨_, rfl, ?_⟩
    have fc : jf μ μ := jf_id μ
    have hUμ : jU μ (μ 95) := jU_jf fc
    have q94μ : μ 94 1 = μ 94 1 := by rw [fc 94 (by omega)]
    refine jv_enter (d := 199) jm_p_X10_order [some (.inr (.inr 94)), some (.inl q), none, none, none, none, none] rfl rfl rfl (Nat.le_of_ble_eq_true rfl) rfl rfl ?_
    refine jv_aload_n rfl rfl rfl (by decide) ?_
    refine jv_geti rfl rfl rfl ⟨by decide, rfl⟩ (by decide) ?_
    refine jv_if_ne rfl rfl rfl (fun c2 => ?_) (fun c2 => ?_)
    · first
      | (exfalso; omega)
      | skip
        refine jv_iload_n rfl rfl rfl ?_
        refine jv_i2l rfl rfl ?_
        refine jv_ldc2_w rfl rfl ?_
        refine jv_ldc2_w rfl rfl ?_
        refine jv_callS3 rfl rfl rfl (Nat.le_of_ble_eq_true rfl) (mo_in (fun b9 => ?_) (fun b9 => ?_))
        · first
          | (exfalso; omega)
          | skip
            show jV _ _ jm_p_X10_order _ 10 [some (.inr (.inr 94)), some (.inl q), none, none, none, none, none] [.inl 1] μ
            refine jv_if_neT rfl rfl (by decide) ?_
            refine jv_aload_n rfl rfl rfl (by decide) ?_
            refine jv_getr (w := 95) rfl rfl rfl ⟨by decide, rfl⟩ rfl rfl ?_
            refine jv_iconst rfl rfl ?_
            refine jv_iaload rfl rfl (by decide) rfl ⟨by omega, by omega⟩ ?_
            refine jv_istore_n (fun x => [some (.inr (.inr 94)), some (.inl q), some (.inl x), none, none, none, none]) rfl rfl (fun _ => rfl) (fun x2_17 ex2_17 => ?_)
            refine jv_ldc rfl rfl ?_
            refine jv_istore_nK (L2 := [some (.inr (.inr 94)), some (.inl q), some (.inl x2_17), some (.inl (-1000000)), none, none, none]) rfl rfl rfl ?_
            refine jv_iconst rfl rfl ?_
            refine jv_istoreK (L2 := [some (.inr (.inr 94)), some (.inl q), some (.inl x2_17), some (.inl (-1000000)), some (.inl 1), none, none]) rfl rfl rfl ?_
            refine jv_aload_n rfl rfl rfl (by decide) ?_
            refine jv_iload_n rfl rfl rfl ?_
            refine jv_callV1 rfl rfl rfl rfl ⟨by decide, rfl⟩ (Nat.le_of_ble_eq_true rfl) (mo_layLine (by omega) (fun ν24 fν24 gν24 => ?_))
            show jV _ _ jm_p_X10_order _ 25 [some (.inr (.inr 94)), some (.inl q), some (.inl x2_17), some (.inl (-1000000)), some (.inl 1), none, none] [] ν24
            exfalso; omega
        · first
          | (exfalso; omega)
          | skip
            show jV _ _ jm_p_X10_order _ 10 [some (.inr (.inr 94)), some (.inl q), none, none, none, none, none] [.inl 0] μ
            refine jv_if_neF rfl rfl (by decide) ?_
            refine jv_ldc rfl rfl ?_
            refine jv_ireturn rfl (Or.inl rfl) ?_
            exact ⟨jv_one (by omega), jI_pair hI fc (jr_id _)⟩
    · first
      | (exfalso; omega)
      | skip
        refine jv_ldc rfl rfl ?_
        refine jv_ireturn rfl (Or.inl rfl) ?_
        exact ⟨jv_one (by omega), jI_pair hI fc (jr_id _)⟩
  · show jV _ _ jm_p_X9_order _ 2 [some (.inr (.inr 0)), some (.inl q)] [.inl 0] μ
    refine jv_if_eqT rfl rfl (by decide) ?_
    refine jv_iload_n rfl rfl rfl ?_
    refine jv_iconst rfl rfl ?_
    refine jv_icmp_lt rfl rfl rfl (fun c7 => ?_) (fun c7 => ?_)
    · refine jv_ldc rfl rfl ?_
      refine jv_ireturn rfl (Or.inl rfl) ?_
      refine ⟨_, rfl, ?_⟩
      have fc : jf μ μ := jf_id μ
      have hUμ : jU μ (μ 95) := jU_jf fc
      have q94μ : μ 94 1 = μ 94 1 := by rw [fc 94 (by omega)]
      refine jv_enter (d := 199) jm_p_X10_order [some (.inr (.inr 94)), some (.inl q), none, none, none, none, none] rfl rfl rfl (Nat.le_of_ble_eq_true rfl) rfl rfl ?_
      refine jv_aload_n rfl rfl rfl (by decide) ?_
      refine jv_geti rfl rfl rfl ⟨by decide, rfl⟩ (by decide) ?_
      refine jv_if_ne rfl rfl rfl (fun c2 => ?_) (fun c2 => ?_)
      · first
        | (exfalso; omega)
        | skip
          refine jv_iload_n rfl rfl rfl ?_
          refine jv_i2l rfl rfl ?_
          refine jv_ldc2_w rfl rfl ?_
          refine jv_ldc2_w rfl rfl ?_
          refine jv_callS3 rfl rfl rfl (Nat.le_of_ble_eq_true rfl) (mo_in (fun b9 => ?_) (fun b9 => ?_))
          · first
            | (exfalso; omega)
            | skip
              show jV _ _ jm_p_X10_order _ 10 [some (.inr (.inr 94)), some (.inl q), none, none, none, none, none] [.inl 1] μ
              refine jv_if_neT rfl rfl (by decide) ?_
              refine jv_aload_n rfl rfl rfl (by decide) ?_
              refine jv_getr (w := 95) rfl rfl rfl ⟨by decide, rfl⟩ rfl rfl ?_
              refine jv_iconst rfl rfl ?_
              refine jv_iaload rfl rfl (by decide) rfl ⟨by omega, by omega⟩ ?_
              refine jv_istore_n (fun x => [some (.inr (.inr 94)), some (.inl q), some (.inl x), none, none, none, none]) rfl rfl (fun _ => rfl) (fun x2_17 ex2_17 => ?_)
              refine jv_ldc rfl rfl ?_
              refine jv_istore_nK (L2 := [some (.inr (.inr 94)), some (.inl q), some (.inl x2_17), some (.inl (-1000000)), none, none, none]) rfl rfl rfl ?_
              refine jv_iconst rfl rfl ?_
              refine jv_istoreK (L2 := [some (.inr (.inr 94)), some (.inl q), some (.inl x2_17), some (.inl (-1000000)), some (.inl 1), none, none]) rfl rfl rfl ?_
              refine jv_aload_n rfl rfl rfl (by decide) ?_
              refine jv_iload_n rfl rfl rfl ?_
              refine jv_callV1 rfl rfl rfl rfl ⟨by decide, rfl⟩ (Nat.le_of_ble_eq_true rfl) (mo_layLine (by omega) (fun ν24 fν24 gν24 => ?_))
              show jV _ _ jm_p_X10_order _ 25 [some (.inr (.inr 94)), some (.inl q), some (.inl x2_17), some (.inl (-1000000)), some (.inl 1), none, none] [] ν24
              exfalso; omega
          · first
            | (exfalso; omega)
            | skip
              show jV _ _ jm_p_X10_order _ 10 [some (.inr (.inr 94)), some (.inl q), none, none, none, none, none] [.inl 0] μ
              refine jv_if_neF rfl rfl (by decide) ?_
              refine jv_ldc rfl rfl ?_
              refine jv_ireturn rfl (Or.inl rfl) ?_
              exact ⟨jv_one (by omega), jI_pair hI fc (jr_id _)⟩
      · first
        | (exfalso; omega)
        | skip
          refine jv_ldc rfl rfl ?_
          refine jv_ireturn rfl (Or.inl rfl) ?_
          exact ⟨jv_one (by omega), jI_pair hI fc (jr_id _)⟩
    · refine jv_iload_n rfl rfl rfl ?_
      refine jv_bipush rfl rfl ?_
      refine jv_icmp_lt rfl rfl rfl (fun c10 => ?_) (fun c10 => ?_)
      · refine jv_aload_n rfl rfl rfl (by decide) ?_
        refine jv_getr (w := 49) rfl rfl rfl ⟨by decide, rfl⟩ rfl rfl ?_
        refine jv_aload_n rfl rfl rfl (by decide) ?_
        refine jv_getr (w := 7) rfl rfl rfl ⟨by decide, rfl⟩ rfl rfl ?_
        refine jv_callV1 rfl rfl rfl rfl ⟨by decide, rfl⟩ (Nat.le_of_ble_eq_true rfl) (cl_seekO (n := (μ 95 1).toNat) hHμ hcf (by omega) (by omega) (fun μ17 fμ17 oμ17 => ?_))
        show jV _ _ jm_p_X9_order _ 18 [some (.inr (.inr 0)), some (.inl q)] [] μ17
        have hHμ17 := jH_jf fμ17 hHμ
        have n3μ17 := jH_3 hHμ17
        refine jv_aload_n rfl rfl rfl (by decide) ?_
        refine jv_getr (w := 49) rfl rfl rfl ⟨by decide, rfl⟩ rfl rfl ?_
        refine jv_iload_n rfl rfl rfl ?_
        refine jv_aload_n rfl rfl rfl (by decide) ?_
        refine jv_getr (w := 7) rfl rfl rfl ⟨by decide, rfl⟩ rfl rfl ?_
        refine jv_geti rfl rfl rfl ⟨by decide, rfl⟩ (by decide) ?_
        refine jv_callV2 rfl rfl rfl rfl ⟨by decide, rfl⟩ (Nat.le_of_ble_eq_true rfl) (cl_told (by omega) ?_)
        show jV _ _ jm_p_X9_order _ 25 [some (.inr (.inr 0)), some (.inl q)] [.inl (if q = -1 then μ17 49 5 else if 0 ≤ q ∧ q < (μ17 7 3) then μ17 57 q else -1000000)] μ17
        refine jv_ireturn rfl (Or.inl rfl) ?_
        refine ⟨_, rfl, ?_⟩
        have fc : jf μ μ17 := fμ17
        have hUμ17 : jU μ17 (μ 95) := jU_jf fc
        have u0μ17 := hUμ17 0 (by decide) (by decide)
        have u1μ17 := hUμ17 1 (by decide) (by decide)
        have q94μ17 : μ17 94 1 = μ 94 1 := by rw [fc 94 (by omega)]
        refine jv_enter (d := 199) jm_p_X10_order [some (.inr (.inr 94)), some (.inl q), none, none, none, none, none] rfl rfl rfl (Nat.le_of_ble_eq_true rfl) rfl rfl ?_
        refine jv_aload_n rfl rfl rfl (by decide) ?_
        refine jv_geti rfl rfl rfl ⟨by decide, rfl⟩ (by decide) ?_
        refine jv_if_ne rfl rfl rfl (fun c2 => ?_) (fun c2 => ?_)
        · first
          | (exfalso; omega)
          | skip
            refine jv_iload_n rfl rfl rfl ?_
            refine jv_i2l rfl rfl ?_
            refine jv_ldc2_w rfl rfl ?_
            refine jv_ldc2_w rfl rfl ?_
            refine jv_callS3 rfl rfl rfl (Nat.le_of_ble_eq_true rfl) (mo_in (fun b9 => ?_) (fun b9 => ?_))
            · first
              | (exfalso; omega)
              | skip
                show jV _ _ jm_p_X10_order _ 10 [some (.inr (.inr 94)), some (.inl q), none, none, none, none, none] [.inl 1] μ17
                refine jv_if_neT rfl rfl (by decide) ?_
                refine jv_aload_n rfl rfl rfl (by decide) ?_
                refine jv_getr (w := 95) rfl rfl rfl ⟨by decide, rfl⟩ rfl rfl ?_
                refine jv_iconst rfl rfl ?_
                refine jv_iaload rfl rfl (by decide) rfl ⟨by omega, by omega⟩ ?_
                refine jv_istore_n (fun x => [some (.inr (.inr 94)), some (.inl q), some (.inl x), none, none, none, none]) rfl rfl (fun _ => rfl) (fun x2_17 ex2_17 => ?_)
                refine jv_ldc rfl rfl ?_
                refine jv_istore_nK (L2 := [some (.inr (.inr 94)), some (.inl q), some (.inl x2_17), some (.inl (-1000000)), none, none, none]) rfl rfl rfl ?_
                refine jv_iconst rfl rfl ?_
                refine jv_istoreK (L2 := [some (.inr (.inr 94)), some (.inl q), some (.inl x2_17), some (.inl (-1000000)), some (.inl 1), none, none]) rfl rfl rfl ?_
                refine jv_aload_n rfl rfl rfl (by decide) ?_
                refine jv_iload_n rfl rfl rfl ?_
                refine jv_callV1 rfl rfl rfl rfl ⟨by decide, rfl⟩ (Nat.le_of_ble_eq_true rfl) (mo_layLine (by omega) (fun ν24 fν24 gν24 => ?_))
                show jV _ _ jm_p_X10_order _ 25 [some (.inr (.inr 94)), some (.inl q), some (.inl x2_17), some (.inl (-1000000)), some (.inl 1), none, none] [] ν24
                obtain ⟨a0, r0, ea0, ha0, hi0⟩ := jck_p (μ 95 1).toNat (by omega)
                have hB0 : jdf (jco (μ 95)) (μ 95 1).toNat (μ 95 1).toNat [] (361, []) = jbf (jco (μ 95)) (a0 :: r0) (361, []) := by rw [jdf_bf, ea0]
                have hen : x2_17 = μ 95 1 := by omega
                rw [hB0] at oμ17
                have hULL : jU ν24 (μ 95) := fun j j0 j1 => by rw [fν24 95 (by decide)]; exact hUμ17 j j0 j1
                refine mo_order_l (B := jbf (jco (μ 95)) (a0 :: r0) (361, [])) hULL hwf hcf9 hen (fun le2 o5 o6 μz ez gz fz => ?_) r0 a0 (-1000000) (361, []) _ _ ν24 (by rw [hen]; exact ha0) (fun j j0 j1 => by rw [gν24 j j0 j1]; exact (hi0 j j0 (by omega)).symm) (Or.inl ⟨rfl, rfl⟩) rfl ⟨fun _ _ _ _ => rfl, fun _ _ => rfl⟩
                have hlt : (jbf (jco (μ 95)) (a0 :: r0) (361, [])).1 < 361 := by
                  have za := jck_c ha0
                  have zi := jcl_inv hwf hcf (p := a0) (fun x hx => by have z := za.2 x hx; omega)
                  have zl := jbf_le (cost := (jco (μ 95))) r0 (jup (jco (μ 95)) a0 (361, []))
                  have zu : (jup (jco (μ 95)) a0 (361, [])).1 < 361 := by
                    have z4 := zi.2.2.2
                    have z5 : jco (μ 95) a0 < 361 := by unfold jco; omega
                    unfold jup
                    rw [if_pos z5]
                    exact z5
                  simp only [jbf]
                  omega
                have hz1 := oμ17.1
                have hz2 : 0 ≤ q → q < μ 95 1 → μ17 57 q = jF_ (jbf (jco (μ 95)) (a0 :: r0) (361, [])).2 q := fun z1 z2 => oμ17.2 hlt q z1 (by omega)
                have hz3 : 0 ≤ q → q < μ 95 1 → μz 103 q = jF_ (jbf (jco (μ 95)) (a0 :: r0) (361, [])).2 q := fun z1 z2 => gz q z1 (by omega)
                have hIz : jI μz := jI_trial hI (fun z p => by rw [fz.1 z p.1 (by omega) (by omega), fν24 z (by omega), fc z (by omega)]) (fun j p => by rw [fz.2 j p, fν24 95 (by decide), fc 95 (by omega)])
                refine jv_iload_n rfl rfl rfl ?_
                refine jv_if_ge rfl rfl rfl (fun c64 => ?_) (fun c64 => ?_)
                · first
                  | (exfalso; omega)
                  | skip
                    refine jv_iload_n rfl rfl rfl ?_
                    refine jv_iload_n rfl rfl rfl ?_
                    refine jv_icmp_ge rfl rfl rfl (fun c69 => ?_) (fun c69 => ?_)
                    · first
                      | (exfalso; omega)
                      | skip
                        refine jv_ldc rfl rfl ?_
                        refine jv_ireturn rfl (Or.inl rfl) ?_
                        exact ⟨jv_one (by (repeat' split) <;> omega), hIz⟩
                    · first
                      | (exfalso; omega)
                      | skip
                        refine jv_aload_n rfl rfl rfl (by decide) ?_
                        refine jv_getr (w := 103) rfl rfl rfl ⟨by decide, rfl⟩ rfl rfl ?_
                        refine jv_iload_n rfl rfl rfl ?_
                        refine jv_iaload rfl rfl (by decide) rfl ⟨by omega, by omega⟩ ?_
                        refine jv_goto rfl rfl ?_
                        refine jv_ireturn rfl (Or.inl rfl) ?_
                        exact ⟨jv_one (by (repeat' split) <;> omega), hIz⟩
                · first
                  | (exfalso; omega)
                  | skip
                    refine jv_iload_n rfl rfl rfl ?_
                    refine jv_goto rfl rfl ?_
                    refine jv_ireturn rfl (Or.inl rfl) ?_
                    exact ⟨jv_one (by (repeat' split) <;> omega), hIz⟩
            · first
              | (exfalso; omega)
              | skip
                show jV _ _ jm_p_X10_order _ 10 [some (.inr (.inr 94)), some (.inl q), none, none, none, none, none] [.inl 0] μ17
                refine jv_if_neF rfl rfl (by decide) ?_
                refine jv_ldc rfl rfl ?_
                refine jv_ireturn rfl (Or.inl rfl) ?_
                exact ⟨jv_one (by omega), jI_pair hI fc (jr_id _)⟩
        · first
          | (exfalso; omega)
          | skip
            refine jv_ldc rfl rfl ?_
            refine jv_ireturn rfl (Or.inl rfl) ?_
            exact ⟨jv_one (by omega), jI_pair hI fc (jr_id _)⟩
      · refine jv_ldc rfl rfl ?_
        refine jv_ireturn rfl (Or.inl rfl) ?_
        refine ⟨_, rfl, ?_⟩
        have fc : jf μ μ := jf_id μ
        have hUμ : jU μ (μ 95) := jU_jf fc
        have q94μ : μ 94 1 = μ 94 1 := by rw [fc 94 (by omega)]
        refine jv_enter (d := 199) jm_p_X10_order [some (.inr (.inr 94)), some (.inl q), none, none, none, none, none] rfl rfl rfl (Nat.le_of_ble_eq_true rfl) rfl rfl ?_
        refine jv_aload_n rfl rfl rfl (by decide) ?_
        refine jv_geti rfl rfl rfl ⟨by decide, rfl⟩ (by decide) ?_
        refine jv_if_ne rfl rfl rfl (fun c2 => ?_) (fun c2 => ?_)
        · first
          | (exfalso; omega)
          | skip
            refine jv_iload_n rfl rfl rfl ?_
            refine jv_i2l rfl rfl ?_
            refine jv_ldc2_w rfl rfl ?_
            refine jv_ldc2_w rfl rfl ?_
            refine jv_callS3 rfl rfl rfl (Nat.le_of_ble_eq_true rfl) (mo_in (fun b9 => ?_) (fun b9 => ?_))
            · first
              | (exfalso; omega)
              | skip
                show jV _ _ jm_p_X10_order _ 10 [some (.inr (.inr 94)), some (.inl q), none, none, none, none, none] [.inl 1] μ
                refine jv_if_neT rfl rfl (by decide) ?_
                refine jv_aload_n rfl rfl rfl (by decide) ?_
                refine jv_getr (w := 95) rfl rfl rfl ⟨by decide, rfl⟩ rfl rfl ?_
                refine jv_iconst rfl rfl ?_
                refine jv_iaload rfl rfl (by decide) rfl ⟨by omega, by omega⟩ ?_
                refine jv_istore_n (fun x => [some (.inr (.inr 94)), some (.inl q), some (.inl x), none, none, none, none]) rfl rfl (fun _ => rfl) (fun x2_17 ex2_17 => ?_)
                refine jv_ldc rfl rfl ?_
                refine jv_istore_nK (L2 := [some (.inr (.inr 94)), some (.inl q), some (.inl x2_17), some (.inl (-1000000)), none, none, none]) rfl rfl rfl ?_
                refine jv_iconst rfl rfl ?_
                refine jv_istoreK (L2 := [some (.inr (.inr 94)), some (.inl q), some (.inl x2_17), some (.inl (-1000000)), some (.inl 1), none, none]) rfl rfl rfl ?_
                refine jv_aload_n rfl rfl rfl (by decide) ?_
                refine jv_iload_n rfl rfl rfl ?_
                refine jv_callV1 rfl rfl rfl rfl ⟨by decide, rfl⟩ (Nat.le_of_ble_eq_true rfl) (mo_layLine (by omega) (fun ν24 fν24 gν24 => ?_))
                show jV _ _ jm_p_X10_order _ 25 [some (.inr (.inr 94)), some (.inl q), some (.inl x2_17), some (.inl (-1000000)), some (.inl 1), none, none] [] ν24
                exfalso; omega
            · first
              | (exfalso; omega)
              | skip
                show jV _ _ jm_p_X10_order _ 10 [some (.inr (.inr 94)), some (.inl q), none, none, none, none, none] [.inl 0] μ
                refine jv_if_neF rfl rfl (by decide) ?_
                refine jv_ldc rfl rfl ?_
                refine jv_ireturn rfl (Or.inl rfl) ?_
                exact ⟨jv_one (by omega), jI_pair hI fc (jr_id _)⟩
        · first
          | (exfalso; omega)
          | skip
            refine jv_ldc rfl rfl ?_
            refine jv_ireturn rfl (Or.inl rfl) ?_
            exact ⟨jv_one (by omega), jI_pair hI fc (jr_id _)⟩
