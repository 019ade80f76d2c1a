set_option maxRecDepth 10000 in
theorem mo_rz {X : jm_X} {d : Nat} {Q : jv_P} {μ0 : jm_M} (k : ∀ (w : Int) (μ2 : jm_M), jT μ2 jZ → jfm μ0 μ2 → μ2 94 = μ0 94 → jV X d jm_p_X10_reads Q 14 [some (.inr (.inr 94)), some (.inl w)] [] μ2) : ∀ (n : Nat) (w : Int) (μ : jm_M), 0 ≤ w → w ≤ 62 → 62 - w < n → (∀ j, 0 ≤ j → j < w → μ 95 (1674 + j) = 0) → jfm μ0 μ → μ 94 = μ0 94 → jV X d jm_p_X10_reads Q 2 [some (.inr (.inr 94)), some (.inl w)] [] μ := by
  intro n
  induction n with
  | zero => intro w μ y0 y1 yn hz hf h94; exfalso; omega
  | succ n ih =>
    intro w μ y0 y1 yn hz hf h94
    refine jv_iload_n rfl rfl rfl ?_
    refine jv_bipush rfl rfl ?_
    refine jv_icmp_ge rfl rfl rfl (fun c4 => ?_) (fun c4 => ?_)
    · have hx : w = 62 := by omega
      exact k w μ (fun j j0 j1 => hz j j0 (by omega)) hf h94
    · refine jv_aload_n rfl rfl rfl (by decide) ?_
      refine jv_getr (w := 95) rfl rfl rfl ⟨by decide, rfl⟩ rfl rfl ?_
      refine jv_sipush rfl rfl ?_
      refine jv_iload_n rfl rfl rfl ?_
      refine jv_iadd rfl rfl ⟨by omega, by omega⟩ ?_
      refine jv_iconst rfl rfl ?_
      refine jv_iastore rfl rfl rfl (by decide) ⟨by omega, by omega⟩ (fun μ11 eμ11 => ?_)
      refine jv_iinc (fun x => [some (.inr (.inr 94)), some (.inl x)]) rfl rfl rfl ⟨by omega, by omega⟩ (fun _ => rfl) (fun x1_12 ex1_12 => ?_)
      refine jv_goto rfl rfl ?_
      refine ih x1_12 μ11 (by omega) (by omega) (by omega) (fun j j0 j1 => ?_) (jfm_tr hf ⟨fun z p q => by rw [eμ11, jm_off1 q], fun j _ _ _ => by rw [eμ11, jm_off1 (by decide)], fun j q => ?_⟩) (by rw [eμ11, jm_off1 (by decide)]; exact h94)
      · rw [eμ11, jm_uc_self]
        unfold jm_u1
        split
        · rfl
        · exact hz j j0 (by omega)
      · rw [eμ11, jm_uc_self]
        unfold jm_u1
        rw [if_neg (by omega)]
set_option maxRecDepth 10000 in
theorem mo_rc {X : jm_X} {d : Nat} {Q : jv_P} {g : Int → Int} {N : Int} {B : jR} {μ0 : jm_M} (k1 : ∀ a T μ2, B = (0, a, T) → jT μ2 T → jfm μ0 μ2 → Q [.inl 1] μ2) (k0 : ∀ w a μ2, B = (w, a, jZ) → w ≠ 0 → jfm μ0 μ2 → μ2 94 13 = a → μ2 94 14 = w → Q [.inl 0] μ2) : ∀ (k : Nat) (a : Int) (T : Int → Int) (μ : jm_M), T 1 + k = 7 → jtv T → jrm μ g N a → jT μ T → jfm μ0 μ → jpC g N k a T = B → jV X (d + 4) jm_p_X10_reads Q 42 [some (.inr (.inr 94)), some (.inl 1)] [] μ := by
  intro k
  induction k with
  | zero => intro a T μ hk ht Rμ Tμ hf hB; exfalso; have t1 := ht.1.2.1; omega
  | succ k ih =>
    intro a T μ hk ht Rμ Tμ hf hB
    have t1 := ht.1.2.1
    have Fμ := jfm_id μ
    refine jv_iload_n rfl rfl rfl ?_
    refine jv_if_eqF rfl rfl (by decide) ?_
    refine jv_aload_n rfl rfl rfl (by decide) ?_
    refine jv_callV0 rfl rfl rfl rfl ⟨by decide, rfl⟩ (Nat.le_of_ble_eq_true rfl) (mo_isSort Rμ (fun s45 => ?_) (fun s45 => ?_))
    · first
      | (exfalso; omega)
      | skip
        show jV _ _ jm_p_X10_reads _ 46 [some (.inr (.inr 94)), some (.inl 1)] [.inl 1] μ
        refine jv_if_eqF rfl rfl (by decide) ?_
        refine jv_aload_n rfl rfl rfl (by decide) ?_
        refine jv_callV0 rfl rfl rfl rfl ⟨by decide, rfl⟩ (Nat.le_of_ble_eq_true rfl) (mo_readsCom s45 t1 Rμ Tμ (fun a48 c1 c2 c3 μ48 e48 l1 l2 l3 Rμ48 Tμ48 fμ48 => ?_) (fun w48 a48 μ48 e48 h48 fμ48 pμ48 qμ48 => ?_))
        · first
          | (exfalso; omega)
          | skip
            show jV _ _ jm_p_X10_reads _ 49 [some (.inr (.inr 94)), some (.inl 1)] [.inl 1] μ48
            refine jv_istore_nK (L2 := [some (.inr (.inr 94)), some (.inl 1)]) rfl rfl rfl ?_
            refine jv_goto rfl rfl ?_
            have h6 : T 1 < 6 := by
              rcases (show T 1 = 6 ∨ T 1 < 6 by omega) with z | z
              · exfalso
                have y := e48 0
                unfold jpC at y
                rw [if_pos s45, if_pos z] at y
                have y2 : (3 : Int) = 0 := congrArg Prod.fst y
                omega
              · exact z
            have hkr := jkl_r (c := g a)
            have e12 : (jtc4 T (jkl (g a)) c1 c2 c3) 1 = T 1 + 1 := (jtc4_n (by omega)).1
            refine ih a48 (jtc4 T (jkl (g a)) c1 c2 c3) μ48 (by omega) (jtv_com ht (by omega) (by omega) l1 l2 l3) Rμ48 Tμ48 (jfm_tr hf fμ48) (by rw [← e48 k]; exact hB)
        · first
          | (exfalso; omega)
          | skip
            show jV _ _ jm_p_X10_reads _ 49 [some (.inr (.inr 94)), some (.inl 1)] [.inl 0] μ48
            refine jv_istore_nK (L2 := [some (.inr (.inr 94)), some (.inl 0)]) rfl rfl rfl ?_
            refine jv_goto rfl rfl ?_
            refine jv_iload_n rfl rfl rfl ?_
            refine jv_if_eqT rfl rfl (by decide) ?_
            refine jv_iload_n rfl rfl rfl ?_
            refine jv_if_eqT rfl rfl (by decide) ?_
            refine jv_iconst rfl rfl ?_
            refine jv_ireturn rfl (Or.inr ⟨rfl, by decide⟩) ?_
            exact k0 w48 a48 μ48 (by rw [← hB, e48 k]) h48 (jfm_tr hf fμ48) pμ48 qμ48
    · first
      | (exfalso; omega)
      | skip
        show jV _ _ jm_p_X10_reads _ 46 [some (.inr (.inr 94)), some (.inl 1)] [.inl 0] μ
        refine jv_if_eqT rfl rfl (by decide) ?_
        refine jv_iload_n rfl rfl rfl ?_
        refine jv_if_eqF rfl rfl (by decide) ?_
        refine jv_aload_n rfl rfl rfl (by decide) ?_
        refine jv_geti rfl rfl rfl ⟨by decide, rfl⟩ (by decide) ?_
        rw [Rμ.2.1]
        refine jv_aload_n rfl rfl rfl (by decide) ?_
        refine jv_geti rfl rfl rfl ⟨by decide, rfl⟩ (by decide) ?_
        rw [Rμ.1]
        refine jv_icmp_eq rfl rfl rfl (fun c57 => ?_) (fun c57 => ?_)
        · first
          | (exfalso; omega)
          | skip
            refine jv_iconst rfl rfl ?_
            refine jv_goto rfl rfl ?_
            refine jv_ireturn rfl (Or.inr ⟨rfl, by decide⟩) ?_
            exact k1 a T μ (by rw [← hB]; unfold jpC; rw [if_neg s45, if_pos (by omega)]) Tμ hf
        · first
          | (exfalso; omega)
          | skip
            refine jv_aload_n rfl rfl rfl (by decide) ?_
            refine jv_iconst rfl rfl ?_
            refine jv_callV1 rfl rfl rfl rfl ⟨by decide, rfl⟩ (Nat.le_of_ble_eq_true rfl) (mo_refuse (fun μ60 eμ60 => ?_))
            show jV _ _ jm_p_X10_reads _ 61 [some (.inr (.inr 94)), some (.inl 1)] [.inl 0] μ60
            obtain ⟨fμ60, -, -⟩ := jfm_94 (Or.inr (Or.inl rfl)) eμ60
            have Fμ60 : jfm μ μ60 := jfm_tr Fμ fμ60
            have pμ60 : μ60 94 13 = a := by rw [eμ60]; exact Rμ.2.1
            have qμ60 : μ60 94 14 = 1 := by rw [eμ60]; rfl
            refine jv_if_eqT rfl rfl (by decide) ?_
            refine jv_iconst rfl rfl ?_
            refine jv_ireturn rfl (Or.inr ⟨rfl, by decide⟩) ?_
            exact k0 1 a μ60 (by rw [← hB]; unfold jpC; rw [if_neg s45, if_neg (by omega)]) (by decide) (jfm_tr hf fμ60) pμ60 qμ60
set_option maxRecDepth 10000 in
theorem mo_rm {X : jm_X} {d : Nat} {Q : jv_P} {g : Int → Int} {N : Int} {B : jR} {μ0 : jm_M} (kM : ∀ a T μ2, B = (0, a, T) → jtv T → T 1 = 0 → jrm μ2 g N a → jT μ2 T → jfm μ0 μ2 → jV X (d + 4) jm_p_X10_reads Q 42 [some (.inr (.inr 94)), some (.inl 1)] [] μ2) (k0 : ∀ w a μ2, B = (w, a, jZ) → w ≠ 0 → jfm μ0 μ2 → μ2 94 13 = a → μ2 94 14 = w → Q [.inl 0] μ2) : ∀ (k : Nat) (a : Int) (T : Int → Int) (μ : jm_M), T 0 + k = 5 → T 1 = 0 → jtv T → jrm μ g N a → jT μ T → jfm μ0 μ → jpM g N k a T = B → jV X (d + 4) jm_p_X10_reads Q 32 [some (.inr (.inr 94)), some (.inl 1)] [] μ := by
  intro k
  induction k with
  | zero => intro a T μ hk h1 ht Rμ Tμ hf hB; exfalso; have t0 := ht.1.1; omega
  | succ k ih =>
    intro a T μ hk h1 ht Rμ Tμ hf hB
    have t0 := ht.1.1
    have Fμ := jfm_id μ
    refine jv_iload_n rfl rfl rfl ?_
    refine jv_if_eqF rfl rfl (by decide) ?_
    refine jv_aload_n rfl rfl rfl (by decide) ?_
    refine jv_bipush rfl rfl ?_
    refine jv_callV1 rfl rfl rfl rfl ⟨by decide, rfl⟩ (Nat.le_of_ble_eq_true rfl) (mo_isLetter Rμ (fun s36 => ?_) (fun s36 => ?_))
    · first
      | (exfalso; omega)
      | skip
        show jV _ _ jm_p_X10_reads _ 37 [some (.inr (.inr 94)), some (.inl 1)] [.inl 1] μ
        refine jv_if_eqF rfl rfl (by decide) ?_
        refine jv_aload_n rfl rfl rfl (by decide) ?_
        refine jv_callV0 rfl rfl rfl rfl ⟨by decide, rfl⟩ (Nat.le_of_ble_eq_true rfl) (mo_readsMat s36 t0 Rμ Tμ (fun a39 c1 μ39 e39 l1 Rμ39 Tμ39 fμ39 => ?_) (fun w39 a39 μ39 e39 h39 fμ39 pμ39 qμ39 => ?_))
        · first
          | (exfalso; omega)
          | skip
            show jV _ _ jm_p_X10_reads _ 40 [some (.inr (.inr 94)), some (.inl 1)] [.inl 1] μ39
            refine jv_istore_nK (L2 := [some (.inr (.inr 94)), some (.inl 1)]) rfl rfl rfl ?_
            refine jv_goto rfl rfl ?_
            have h4 : T 0 < 4 := by
              rcases (show T 0 = 4 ∨ T 0 < 4 by omega) with z | z
              · exfalso
                have y := e39 0
                unfold jpM at y
                rw [if_pos s36, if_pos z] at y
                have y2 : (3 : Int) = 0 := congrArg Prod.fst y
                omega
              · exact z
            have e02 : (jm_u1 (jm_u1 T (4 + T 0) c1) 0 (T 0 + 1)) 0 = T 0 + 1 := if_pos rfl
            have e12 : (jm_u1 (jm_u1 T (4 + T 0) c1) 0 (T 0 + 1)) 1 = T 1 := by unfold jm_u1; rw [if_neg (by decide), if_neg (by omega)]
            refine ih a39 (jm_u1 (jm_u1 T (4 + T 0) c1) 0 (T 0 + 1)) μ39 (by omega) (by omega) (jtv_mat ht h4 l1) Rμ39 Tμ39 (jfm_tr hf fμ39) (by rw [← e39 k]; exact hB)
        · first
          | (exfalso; omega)
          | skip
            show jV _ _ jm_p_X10_reads _ 40 [some (.inr (.inr 94)), some (.inl 1)] [.inl 0] μ39
            refine jv_istore_nK (L2 := [some (.inr (.inr 94)), some (.inl 0)]) rfl rfl rfl ?_
            refine jv_goto rfl rfl ?_
            refine jv_iload_n rfl rfl rfl ?_
            refine jv_if_eqT rfl rfl (by decide) ?_
            refine jv_iload_n rfl rfl rfl ?_
            refine jv_if_eqT rfl rfl (by decide) ?_
            refine jv_iload_n rfl rfl rfl ?_
            refine jv_if_eqT rfl rfl (by decide) ?_
            refine jv_iconst rfl rfl ?_
            refine jv_ireturn rfl (Or.inr ⟨rfl, by decide⟩) ?_
            exact k0 w39 a39 μ39 (by rw [← hB, e39 k]) h39 (jfm_tr hf fμ39) pμ39 qμ39
    · first
      | (exfalso; omega)
      | skip
        show jV _ _ jm_p_X10_reads _ 37 [some (.inr (.inr 94)), some (.inl 1)] [.inl 0] μ
        refine jv_if_eqT rfl rfl (by decide) ?_
        exact kM a T μ (by rw [← hB]; unfold jpM; rw [if_neg s36]) ht h1 Rμ Tμ hf
set_option maxRecDepth 10000 in
theorem mo_reads {X : jm_X} {d : Nat} {Q : jv_P} {μ : jm_M} {g : Int → Int} {N : Int} (hN : μ 94 8 = N) (hN6 : 0 ≤ N ∧ N ≤ 100) (hg : ∀ j, 0 ≤ j → j < N → μ 100 j = g j ∧ 0 ≤ g j ∧ g j ≤ 255) (k1 : ∀ a T μ2, jpA g N = (0, a, T) → jT μ2 T → jfm μ μ2 → Q [.inl 1] μ2) (k0 : ∀ w a μ2, jpA g N = (w, a, jZ) → w ≠ 0 → jfm μ μ2 → μ2 94 13 = a → μ2 94 14 = w → Q [.inl 0] μ2) : cV X (d + 5) 158 [.inr (.inr 94)] μ Q := by
  refine jv_enter (d := d + 4) jm_p_X10_reads [some (.inr (.inr 94)), none] rfl rfl rfl (Nat.le_of_ble_eq_true rfl) rfl rfl ?_
  refine jv_iconst rfl rfl ?_
  refine jv_istore_nK (L2 := [some (.inr (.inr 94)), some (.inl 0)]) rfl rfl rfl ?_
  refine mo_rz (fun w2 μ2 Tμ2 Fμ2 g2 => ?_) 63 0 μ (by omega) (by omega) (by omega) (fun j j0 j1 => by exfalso; omega) (jfm_id μ) rfl
  refine jv_aload_n rfl rfl rfl (by decide) ?_
  refine jv_iconst rfl rfl ?_
  refine jv_puti rfl rfl rfl ⟨by decide, rfl⟩ (Or.inl rfl) (fun μ16 eμ16 => ?_)
  obtain ⟨fμ16, hμ16, iμ16⟩ := jfm_94 (Or.inl rfl) eμ16
  have Fμ16 : jfm μ μ16 := jfm_tr Fμ2 fμ16
  have Tμ16 : jT μ16 jZ := fun j j0 j1 => by rw [hμ16]; exact Tμ2 j j0 j1
  have Rμ16 : jrm μ16 g N 0 := ⟨by rw [Fμ16.2.1 8 (by decide) (by decide) (by decide)]; exact hN, by rw [eμ16]; rfl, by omega, fun j j0 j1 => by rw [Fμ16.1 100 (by decide) (by decide)]; exact hg j j0 j1⟩
  refine jv_aload_n rfl rfl rfl (by decide) ?_
  refine jv_callV0 rfl rfl rfl rfl ⟨by decide, rfl⟩ (Nat.le_of_ble_eq_true rfl) (mo_readsLaw Rμ16 Tμ16 (fun a18 l18 b18 μ18 e18 ll lb Rμ18 Tμ18 fμ18 => ?_) (fun w18 a18 μ18 e18 h18 fμ18 pμ18 qμ18 => ?_))
  · show jV _ _ jm_p_X10_reads _ 19 [some (.inr (.inr 94)), some (.inl w2)] [.inl 1] μ18
    have Fμ18 := jfm_tr Fμ16 fμ18
    refine jv_if_neT rfl rfl (by decide) ?_
    refine jv_aload_n rfl rfl rfl (by decide) ?_
    refine jv_bipush rfl rfl ?_
    refine jv_callV1 rfl rfl rfl rfl ⟨by decide, rfl⟩ (Nat.le_of_ble_eq_true rfl) (mo_isLetter Rμ18 (fun s24 => ?_) (fun s24 => ?_))
    · show jV _ _ jm_p_X10_reads _ 25 [some (.inr (.inr 94)), some (.inl w2)] [.inl 1] μ18
      refine jv_if_neT rfl rfl (by decide) ?_
      refine jv_iconst rfl rfl ?_
      refine jv_istore_nK (L2 := [some (.inr (.inr 94)), some (.inl 1)]) rfl rfl rfl ?_
      have eA : jpA g N = jbR (jpM g N 5 a18 (jm_u1 (jm_u1 jZ 2 l18) 3 b18)) (fun a T => jpC g N 7 a T) := by
        unfold jpA
        rw [jbR_ok e18, if_pos s24]
      exact mo_rm (B := jpM g N 5 a18 (jm_u1 (jm_u1 jZ 2 l18) 3 b18)) (fun a T μ2 e ht h1 R2 T2 F2 => mo_rc (B := jpA g N) (fun a' T' μ3 e3 T3 F3 => k1 a' T' μ3 e3 T3 F3) (fun w a' μ3 e3 h3 F3 p3 q3 => k0 w a' μ3 e3 h3 F3 p3 q3) 7 a T μ2 (by omega) ht R2 T2 F2 (by rw [eA, jbR_ok e])) (fun w a μ2 e hw F2 p2 q2 => k0 w a μ2 (by rw [eA, jbR_no e hw]) hw F2 p2 q2) 5 a18 (jm_u1 (jm_u1 jZ 2 l18) 3 b18) μ18 (show (0 : Int) + 5 = 5 by decide) rfl (jtv_law ll lb) Rμ18 Tμ18 Fμ18 rfl
    · show jV _ _ jm_p_X10_reads _ 25 [some (.inr (.inr 94)), some (.inl w2)] [.inl 0] μ18
      refine jv_if_neF rfl rfl (by decide) ?_
      refine jv_aload_n rfl rfl rfl (by decide) ?_
      refine jv_iconst rfl rfl ?_
      refine jv_callV1 rfl rfl rfl rfl ⟨by decide, rfl⟩ (Nat.le_of_ble_eq_true rfl) (mo_refuse (fun μ28 eμ28 => ?_))
      show jV _ _ jm_p_X10_reads _ 29 [some (.inr (.inr 94)), some (.inl w2)] [.inl 0] μ28
      obtain ⟨fμ28, -, -⟩ := jfm_94 (Or.inr (Or.inl rfl)) eμ28
      have Fμ28 : jfm μ μ28 := jfm_tr Fμ18 fμ28
      have pμ28 : μ28 94 13 = a18 := by rw [eμ28]; exact Rμ18.2.1
      have qμ28 : μ28 94 14 = 1 := by rw [eμ28]; rfl
      refine jv_ireturn rfl (Or.inr ⟨rfl, by decide⟩) ?_
      exact k0 1 a18 μ28 (by unfold jpA; rw [jbR_ok e18, if_neg s24]) (by decide) Fμ28 pμ28 qμ28
  · show jV _ _ jm_p_X10_reads _ 19 [some (.inr (.inr 94)), some (.inl w2)] [.inl 0] μ18
    have Fμ18 := jfm_tr Fμ16 fμ18
    refine jv_if_neF rfl rfl (by decide) ?_
    refine jv_iconst rfl rfl ?_
    refine jv_ireturn rfl (Or.inr ⟨rfl, by decide⟩) ?_
    exact k0 w18 a18 μ18 (jpA_no e18 h18) h18 Fμ18 pμ18 qμ18
