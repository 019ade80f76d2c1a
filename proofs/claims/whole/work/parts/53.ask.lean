/-! asks and the trace -/
def jtc (μ0 μ : jm_M) (n : Int) (f : Int → Int) : Prop := (∀ z, z ≠ 58 → z ≠ 59 → μ z = μ0 z) ∧ μ 58 1 = n ∧ ∀ j, 0 ≤ j → j < n → μ 59 j = f j
def jtm (μ0 μ : jm_M) (n : Int) (f : Int → Int) : Prop := (∀ z, z ≠ 94 → z ≠ 101 → μ z = μ0 z) ∧ (∀ j, j ≠ 12 → μ 94 j = μ0 94 j) ∧ μ 94 12 = n ∧ ∀ j, 0 ≤ j → j < n → μ 101 j = f j
set_option maxRecDepth 10000 in
theorem cl_leave {X : jm_X} {d : Nat} {Q : jv_P} {μ : jm_M} {y n : Int} {f : Int → Int} {μ0 : jm_M} (h : jtc μ0 μ n f) (hn : 0 ≤ n ∧ n < 16) (k : ∀ μ2, jtc μ0 μ2 (n + 1) (jm_u1 f n y) → Q [] μ2) : cV X (d + 1) 4 [.inr (.inr 58), .inl y] μ Q := by
  have hn1 := h.2.1
  refine jv_enter (d := d + 0) jm_p_X0_leaveTrace [some (.inr (.inr 58)), some (.inl y)] rfl rfl rfl (Nat.le_of_ble_eq_true rfl) rfl rfl ?_
  refine jv_aload_n rfl rfl rfl (by decide) ?_
  refine jv_geti rfl rfl rfl ⟨by decide, rfl⟩ (by decide) ?_
  refine jv_bipush rfl rfl ?_
  refine jv_icmp_geF rfl rfl (by omega) ?_
  refine jv_aload_n rfl rfl rfl (by decide) ?_
  refine jv_getr (w := 59) rfl rfl rfl ⟨by decide, rfl⟩ rfl rfl ?_
  refine jv_aload_n rfl rfl rfl (by decide) ?_
  refine jv_geti rfl rfl rfl ⟨by decide, rfl⟩ (by decide) ?_
  refine jv_iload_n rfl rfl rfl ?_
  refine jv_iastore rfl rfl rfl (by decide) ⟨by omega, by omega⟩ (fun μ9 eμ9 => ?_)
  refine jv_aload_n rfl rfl rfl (by decide) ?_
  refine jv_dupr rfl rfl ?_
  refine jv_geti rfl rfl rfl ⟨by decide, rfl⟩ (by decide) ?_
  refine jv_iconst rfl rfl ?_
  refine jv_iadd rfl rfl (by rw [eμ9]; exact ⟨by show _ ≤ μ 58 1 + 1; omega, by show μ 58 1 + 1 ≤ _; omega⟩) ?_
  refine jv_puti rfl rfl rfl ⟨by decide, rfl⟩ (Or.inl rfl) (fun μ15 eμ15 => ?_)
  refine jv_return rfl ?_
  have e58 : μ15 58 1 = μ 58 1 + 1 := by rw [eμ15, eμ9]; rfl
  have e59 : μ15 59 = jm_u1 (μ 59) (μ 58 1) y := by rw [eμ15, eμ9]; rfl
  refine k _ ⟨fun z a b => by rw [eμ15, jm_off1 a, eμ9, jm_off1 b]; exact h.1 z a b, by omega, fun j j0 j1 => ?_⟩
  rw [e59, hn1]
  unfold jm_u1
  split
  · rfl
  · exact h.2.2 j j0 (by omega)
set_option maxRecDepth 10000 in
theorem mo_begin {X : jm_X} {d : Nat} {Q : jv_P} {μ : jm_M} {y n : Int} {f : Int → Int} {μ0 : jm_M} (h : jtm μ0 μ n f) (hn : 0 ≤ n ∧ n < 16) (k : ∀ μ2, jtm μ0 μ2 (n + 1) (jm_u1 f n y) → Q [] μ2) : cV X (d + 1) 209 [.inr (.inr 94), .inl y] μ Q := by
  have hn1 := h.2.2.1
  refine jv_enter (d := d + 0) jm_p_X10_begin [some (.inr (.inr 94)), some (.inl y)] rfl rfl rfl (Nat.le_of_ble_eq_true rfl) rfl rfl ?_
  refine jv_aload_n rfl rfl rfl (by decide) ?_
  refine jv_geti rfl rfl rfl ⟨by decide, rfl⟩ (by decide) ?_
  refine jv_bipush rfl rfl ?_
  refine jv_icmp_geF rfl rfl (by omega) ?_
  refine jv_aload_n rfl rfl rfl (by decide) ?_
  refine jv_getr (w := 101) rfl rfl rfl ⟨by decide, rfl⟩ rfl rfl ?_
  refine jv_aload_n rfl rfl rfl (by decide) ?_
  refine jv_geti rfl rfl rfl ⟨by decide, rfl⟩ (by decide) ?_
  refine jv_iload_n rfl rfl rfl ?_
  refine jv_iastore rfl rfl rfl (by decide) ⟨by omega, by omega⟩ (fun μ9 eμ9 => ?_)
  refine jv_aload_n rfl rfl rfl (by decide) ?_
  refine jv_dupr rfl rfl ?_
  refine jv_geti rfl rfl rfl ⟨by decide, rfl⟩ (by decide) ?_
  refine jv_iconst rfl rfl ?_
  refine jv_iadd rfl rfl (by rw [eμ9]; exact ⟨by show _ ≤ μ 94 12 + 1; omega, by show μ 94 12 + 1 ≤ _; omega⟩) ?_
  refine jv_puti rfl rfl rfl ⟨by decide, rfl⟩ (Or.inl rfl) (fun μ15 eμ15 => ?_)
  refine jv_return rfl ?_
  have e94 : μ15 94 = jm_u1 (μ 94) 12 (μ 94 12 + 1) := by rw [eμ15, eμ9]; rfl
  have e101 : μ15 101 = jm_u1 (μ 101) (μ 94 12) y := by rw [eμ15, eμ9]; rfl
  have e12 : μ15 94 12 = μ 94 12 + 1 := by rw [e94]; rfl
  refine k _ ⟨fun z a b => by rw [eμ15, jm_off1 a, eμ9, jm_off1 b]; exact h.1 z a b, fun j q => ?_, by omega, fun j j0 j1 => ?_⟩
  · rw [e94]
    unfold jm_u1
    rw [if_neg q]
    exact h.2.1 j q
  · rw [e101, hn1]
    unfold jm_u1
    split
    · rfl
    · exact h.2.2.2 j j0 (by omega)
set_option maxRecDepth 10000 in
theorem cl_bodyS {X : jm_X} {d : Nat} {Q : jv_P} {μ : jm_M} {z so v : Int} {g4 : Int → Int} (hz : jz_com z) (hx4 : X 4 = (6, g4)) (hs : μ z 0 = so) (hso : 1 ≤ so ∧ so ≤ 5) (hg : g4 so = v) (k : Q [.inl v] μ) : cV X (d + 1) 3 [.inr (.inr z), .inl 0] μ Q := by
  refine jv_enter (d := d + 0) jm_p_X0_bodyOf [some (.inr (.inr z)), some (.inl 0), none] rfl rfl rfl (Nat.le_of_ble_eq_true rfl) rfl rfl ?_
  refine jv_aload_n rfl rfl rfl (by have := hz.2; omega) ?_
  refine jv_geti rfl rfl hz.1 ⟨hz.2.1, rfl⟩ (by decide) ?_
  rw [hs]
  refine jv_if_ltF rfl rfl (by omega) ?_
  refine jv_aload_n rfl rfl rfl (by have := hz.2; omega) ?_
  refine jv_geti rfl rfl hz.1 ⟨hz.2.1, rfl⟩ (by decide) ?_
  rw [hs]
  refine jv_bipush rfl rfl ?_
  refine jv_icmp_geF rfl rfl (by omega) ?_
  refine jv_aload_n rfl rfl rfl (by have := hz.2; omega) ?_
  refine jv_geti rfl rfl hz.1 ⟨hz.2.1, rfl⟩ (by decide) ?_
  rw [hs]
  refine jv_goto rfl rfl ?_
  refine jv_istore_n (fun x => [some (.inr (.inr z)), some (.inl 0), some (.inl x)]) rfl rfl (fun _ => rfl) (fun x2_11 ex2_11 => ?_)
  refine jv_iload_n rfl rfl rfl ?_
  refine jv_if_neF rfl rfl (by decide) ?_
  refine jv_getstatic rfl rfl ?_
  refine jv_iload_n rfl rfl rfl ?_
  refine jv_xaload rfl rfl ⟨by decide, by decide⟩ hx4 ⟨by omega, by omega⟩ ?_
  refine jv_goto rfl rfl ?_
  refine jv_ireturn rfl (Or.inl rfl) ?_
  rw [ex2_11, hg]
  exact k
set_option maxRecDepth 10000 in
theorem cl_bodyM {X : jm_X} {d : Nat} {Q : jv_P} {μ : jm_M} {z so v : Int} {g5 : Int → Int} (hz : jz_com z) (hx5 : X 5 = (6, g5)) (hs : μ z 0 = so) (hso : 1 ≤ so ∧ so ≤ 5) (hg : g5 so = v) (k : Q [.inl v] μ) : cV X (d + 1) 3 [.inr (.inr z), .inl 1] μ Q := by
  refine jv_enter (d := d + 0) jm_p_X0_bodyOf [some (.inr (.inr z)), some (.inl 1), none] rfl rfl rfl (Nat.le_of_ble_eq_true rfl) rfl rfl ?_
  refine jv_aload_n rfl rfl rfl (by have := hz.2; omega) ?_
  refine jv_geti rfl rfl hz.1 ⟨hz.2.1, rfl⟩ (by decide) ?_
  rw [hs]
  refine jv_if_ltF rfl rfl (by omega) ?_
  refine jv_aload_n rfl rfl rfl (by have := hz.2; omega) ?_
  refine jv_geti rfl rfl hz.1 ⟨hz.2.1, rfl⟩ (by decide) ?_
  rw [hs]
  refine jv_bipush rfl rfl ?_
  refine jv_icmp_geF rfl rfl (by omega) ?_
  refine jv_aload_n rfl rfl rfl (by have := hz.2; omega) ?_
  refine jv_geti rfl rfl hz.1 ⟨hz.2.1, rfl⟩ (by decide) ?_
  rw [hs]
  refine jv_goto rfl rfl ?_
  refine jv_istore_n (fun x => [some (.inr (.inr z)), some (.inl 1), some (.inl x)]) rfl rfl (fun _ => rfl) (fun x2_11 ex2_11 => ?_)
  refine jv_iload_n rfl rfl rfl ?_
  refine jv_if_neT rfl rfl (by decide) ?_
  refine jv_getstatic rfl rfl ?_
  refine jv_iload_n rfl rfl rfl ?_
  refine jv_xaload rfl rfl ⟨by decide, by decide⟩ hx5 ⟨by omega, by omega⟩ ?_
  refine jv_ireturn rfl (Or.inl rfl) ?_
  rw [ex2_11, hg]
  exact k
set_option maxRecDepth 10000 in
theorem cl_g10 {X : jm_X} {d : Nat} {Q : jv_P} {μ : jm_M} {z nu dp n : Int} {f : Int → Int} {μ0 : jm_M} (hz : jz_com z) (zb : z < 58) (h : jtc μ0 μ n f) (hn : 0 ≤ n ∧ n + 1 ≤ 16) (hdp : 0 ≤ dp ∧ dp + 2 ≤ 16) (hso : 0 ≤ μ0 z 1 ∧ μ0 z 1 ≤ 60) (hca : 0 ≤ μ0 z 4 ∧ μ0 z 4 ≤ 999) (hnu : 0 ≤ nu ∧ nu ≤ 5) (k : ∀ μ2, jtc μ0 μ2 (n + 1) (jm_u1 f n 10) → Q [.inl (μ0 z 1)] μ2) : cV X (d + 2) 5 [.inr (.inr 58), .inl 10, .inr (.inr z), .inl nu, .inl dp] μ Q := by
  refine jv_enter (d := d + 1) jm_p_X0_give [some (.inr (.inr 58)), some (.inl 10), some (.inr (.inr z)), some (.inl nu), some (.inl dp), none] rfl rfl rfl (Nat.le_of_ble_eq_true rfl) rfl rfl ?_
  refine jv_iload rfl rfl rfl ?_
  refine jv_bipush rfl rfl ?_
  refine jv_icmp_leT rfl rfl (by omega) ?_
  refine jv_aload_n rfl rfl rfl (by decide) ?_
  refine jv_iload_n rfl rfl rfl ?_
  refine jv_callV1 rfl rfl rfl rfl ⟨by decide, rfl⟩ (Nat.le_of_ble_eq_true rfl) (cl_leave h (by omega) (fun μ7 hμ7 => ?_))
  show jV _ _ jm_p_X0_give _ 8 [some (.inr (.inr 58)), some (.inl 10), some (.inr (.inr z)), some (.inl nu), some (.inl dp), none] [] μ7
  refine jv_iload rfl rfl rfl ?_
  refine jv_iconst rfl rfl ?_
  refine jv_iadd rfl rfl ⟨by omega, by omega⟩ ?_
  refine jv_istore (fun x => [some (.inr (.inr 58)), some (.inl 10), some (.inr (.inr z)), some (.inl nu), some (.inl dp), some (.inl x)]) rfl rfl (fun _ => rfl) (fun x5_11 ex5_11 => ?_)
  refine jv_iload_n rfl rfl rfl ?_
  refine jv_tsw rfl (And.intro (fun _ => ?_) (fun q => absurd rfl q))
  show jV _ _ jm_p_X0_give _ 14 [some (.inr (.inr 58)), some (.inl 10), some (.inr (.inr z)), some (.inl nu), some (.inl dp), some (.inl x5_11)] [] μ7
  refine jv_aload_n rfl rfl rfl (by have := hz.2; omega) ?_
  refine jv_geti rfl rfl hz.1 ⟨hz.2.1, rfl⟩ (by decide) ?_
  rw [hμ7.1 z (by omega) (by omega)]
  refine jv_ireturn rfl (Or.inl rfl) ?_
  exact k _ hμ7
set_option maxRecDepth 10000 in
theorem cl_g20 {X : jm_X} {d : Nat} {Q : jv_P} {μ : jm_M} {z nu dp n : Int} {f : Int → Int} {μ0 : jm_M} (hz : jz_com z) (zb : z < 58) (h : jtc μ0 μ n f) (hn : 0 ≤ n ∧ n + 1 ≤ 16) (hdp : 0 ≤ dp ∧ dp + 2 ≤ 16) (hso : 0 ≤ μ0 z 1 ∧ μ0 z 1 ≤ 60) (hca : 0 ≤ μ0 z 4 ∧ μ0 z 4 ≤ 999) (hnu : 0 ≤ nu ∧ nu ≤ 5) (k : ∀ μ2, jtc μ0 μ2 (n + 1) (jm_u1 f n 20) → Q [.inl nu] μ2) : cV X (d + 2) 5 [.inr (.inr 58), .inl 20, .inr (.inr z), .inl nu, .inl dp] μ Q := by
  refine jv_enter (d := d + 1) jm_p_X0_give [some (.inr (.inr 58)), some (.inl 20), some (.inr (.inr z)), some (.inl nu), some (.inl dp), none] rfl rfl rfl (Nat.le_of_ble_eq_true rfl) rfl rfl ?_
  refine jv_iload rfl rfl rfl ?_
  refine jv_bipush rfl rfl ?_
  refine jv_icmp_leT rfl rfl (by omega) ?_
  refine jv_aload_n rfl rfl rfl (by decide) ?_
  refine jv_iload_n rfl rfl rfl ?_
  refine jv_callV1 rfl rfl rfl rfl ⟨by decide, rfl⟩ (Nat.le_of_ble_eq_true rfl) (cl_leave h (by omega) (fun μ7 hμ7 => ?_))
  show jV _ _ jm_p_X0_give _ 8 [some (.inr (.inr 58)), some (.inl 20), some (.inr (.inr z)), some (.inl nu), some (.inl dp), none] [] μ7
  refine jv_iload rfl rfl rfl ?_
  refine jv_iconst rfl rfl ?_
  refine jv_iadd rfl rfl ⟨by omega, by omega⟩ ?_
  refine jv_istore (fun x => [some (.inr (.inr 58)), some (.inl 20), some (.inr (.inr z)), some (.inl nu), some (.inl dp), some (.inl x)]) rfl rfl (fun _ => rfl) (fun x5_11 ex5_11 => ?_)
  refine jv_iload_n rfl rfl rfl ?_
  refine jv_tsw rfl (And.intro (fun q => absurd q (by decide)) (fun _ => And.intro (fun q => absurd q (by decide)) (fun _ => And.intro (fun q => absurd q (by decide)) (fun _ => And.intro (fun q => absurd q (by decide)) (fun _ => And.intro (fun q => absurd q (by decide)) (fun _ => And.intro (fun q => absurd q (by decide)) (fun _ => And.intro (fun q => absurd q (by decide)) (fun _ => And.intro (fun q => absurd q (by decide)) (fun _ => And.intro (fun q => absurd q (by decide)) (fun _ => And.intro (fun q => absurd q (by decide)) (fun _ => And.intro (fun _ => ?_) (fun q => absurd rfl q))))))))))))
  show jV _ _ jm_p_X0_give _ 59 [some (.inr (.inr 58)), some (.inl 20), some (.inr (.inr z)), some (.inl nu), some (.inl dp), some (.inl x5_11)] [] μ7
  refine jv_iload_n rfl rfl rfl ?_
  refine jv_ireturn rfl (Or.inl rfl) ?_
  exact k _ hμ7
set_option maxRecDepth 10000 in
theorem cl_g21 {X : jm_X} {d : Nat} {Q : jv_P} {μ : jm_M} {z nu dp n : Int} {f : Int → Int} {μ0 : jm_M} (hz : jz_com z) (zb : z < 58) (h : jtc μ0 μ n f) (hn : 0 ≤ n ∧ n + 2 ≤ 16) (hdp : 0 ≤ dp ∧ dp + 3 ≤ 16) (hso : 0 ≤ μ0 z 1 ∧ μ0 z 1 ≤ 60) (hca : 0 ≤ μ0 z 4 ∧ μ0 z 4 ≤ 999) (hnu : 0 ≤ nu ∧ nu ≤ 5) (k : ∀ μ2, jtc μ0 μ2 (n + 1 + 1) (jm_u1 (jm_u1 f n 21) (n + 1) 20) → Q [.inl (nu + (μ0 z 4))] μ2) : cV X (d + 3) 5 [.inr (.inr 58), .inl 21, .inr (.inr z), .inl nu, .inl dp] μ Q := by
  refine jv_enter (d := d + 2) jm_p_X0_give [some (.inr (.inr 58)), some (.inl 21), some (.inr (.inr z)), some (.inl nu), some (.inl dp), none] rfl rfl rfl (Nat.le_of_ble_eq_true rfl) rfl rfl ?_
  refine jv_iload rfl rfl rfl ?_
  refine jv_bipush rfl rfl ?_
  refine jv_icmp_leT rfl rfl (by omega) ?_
  refine jv_aload_n rfl rfl rfl (by decide) ?_
  refine jv_iload_n rfl rfl rfl ?_
  refine jv_callV1 rfl rfl rfl rfl ⟨by decide, rfl⟩ (Nat.le_of_ble_eq_true rfl) (cl_leave h (by omega) (fun μ7 hμ7 => ?_))
  show jV _ _ jm_p_X0_give _ 8 [some (.inr (.inr 58)), some (.inl 21), some (.inr (.inr z)), some (.inl nu), some (.inl dp), none] [] μ7
  refine jv_iload rfl rfl rfl ?_
  refine jv_iconst rfl rfl ?_
  refine jv_iadd rfl rfl ⟨by omega, by omega⟩ ?_
  refine jv_istore (fun x => [some (.inr (.inr 58)), some (.inl 21), some (.inr (.inr z)), some (.inl nu), some (.inl dp), some (.inl x)]) rfl rfl (fun _ => rfl) (fun x5_11 ex5_11 => ?_)
  refine jv_iload_n rfl rfl rfl ?_
  refine jv_tsw rfl (And.intro (fun q => absurd q (by decide)) (fun _ => And.intro (fun q => absurd q (by decide)) (fun _ => And.intro (fun q => absurd q (by decide)) (fun _ => And.intro (fun q => absurd q (by decide)) (fun _ => And.intro (fun q => absurd q (by decide)) (fun _ => And.intro (fun q => absurd q (by decide)) (fun _ => And.intro (fun q => absurd q (by decide)) (fun _ => And.intro (fun q => absurd q (by decide)) (fun _ => And.intro (fun q => absurd q (by decide)) (fun _ => And.intro (fun q => absurd q (by decide)) (fun _ => And.intro (fun q => absurd q (by decide)) (fun _ => And.intro (fun _ => ?_) (fun q => absurd rfl q)))))))))))))
  show jV _ _ jm_p_X0_give _ 61 [some (.inr (.inr 58)), some (.inl 21), some (.inr (.inr z)), some (.inl nu), some (.inl dp), some (.inl x5_11)] [] μ7
  refine jv_aload_n rfl rfl rfl (by decide) ?_
  refine jv_bipush rfl rfl ?_
  refine jv_aload_n rfl rfl rfl (by have := hz.2; omega) ?_
  refine jv_iload_n rfl rfl rfl ?_
  refine jv_iload rfl rfl rfl ?_
  refine jv_callV4 rfl rfl rfl rfl ⟨by decide, rfl⟩ (Nat.le_of_ble_eq_true rfl) (cl_g20 hz zb hμ7 (by omega) (by omega) hso hca hnu (fun μ66 hμ66 => ?_))
  show jV _ _ jm_p_X0_give _ 67 [some (.inr (.inr 58)), some (.inl 21), some (.inr (.inr z)), some (.inl nu), some (.inl dp), some (.inl x5_11)] [.inl nu] μ66
  refine jv_aload_n rfl rfl rfl (by have := hz.2; omega) ?_
  refine jv_geti rfl rfl hz.1 ⟨hz.2.1, rfl⟩ (by decide) ?_
  rw [hμ66.1 z (by omega) (by omega)]
  refine jv_iadd rfl rfl ⟨by omega, by omega⟩ ?_
  refine jv_ireturn rfl (Or.inl rfl) ?_
  exact k _ hμ66
set_option maxRecDepth 10000 in
theorem cl_g22 {X : jm_X} {d : Nat} {Q : jv_P} {μ : jm_M} {z nu dp n : Int} {f : Int → Int} {μ0 : jm_M} (hz : jz_com z) (zb : z < 58) (h : jtc μ0 μ n f) (hn : 0 ≤ n ∧ n + 3 ≤ 16) (hdp : 0 ≤ dp ∧ dp + 4 ≤ 16) (hso : 0 ≤ μ0 z 1 ∧ μ0 z 1 ≤ 60) (hca : 0 ≤ μ0 z 4 ∧ μ0 z 4 ≤ 999) (hnu : 0 ≤ nu ∧ nu ≤ 5) (k : ∀ μ2, jtc μ0 μ2 (n + 1 + 1 + 1) (jm_u1 (jm_u1 (jm_u1 f n 22) (n + 1) 21) (n + 1 + 1) 20) → Q [.inl ((nu + (μ0 z 4)) - 1000)] μ2) : cV X (d + 4) 5 [.inr (.inr 58), .inl 22, .inr (.inr z), .inl nu, .inl dp] μ Q := by
  refine jv_enter (d := d + 3) jm_p_X0_give [some (.inr (.inr 58)), some (.inl 22), some (.inr (.inr z)), some (.inl nu), some (.inl dp), none] rfl rfl rfl (Nat.le_of_ble_eq_true rfl) rfl rfl ?_
  refine jv_iload rfl rfl rfl ?_
  refine jv_bipush rfl rfl ?_
  refine jv_icmp_leT rfl rfl (by omega) ?_
  refine jv_aload_n rfl rfl rfl (by decide) ?_
  refine jv_iload_n rfl rfl rfl ?_
  refine jv_callV1 rfl rfl rfl rfl ⟨by decide, rfl⟩ (Nat.le_of_ble_eq_true rfl) (cl_leave h (by omega) (fun μ7 hμ7 => ?_))
  show jV _ _ jm_p_X0_give _ 8 [some (.inr (.inr 58)), some (.inl 22), some (.inr (.inr z)), some (.inl nu), some (.inl dp), none] [] μ7
  refine jv_iload rfl rfl rfl ?_
  refine jv_iconst rfl rfl ?_
  refine jv_iadd rfl rfl ⟨by omega, by omega⟩ ?_
  refine jv_istore (fun x => [some (.inr (.inr 58)), some (.inl 22), some (.inr (.inr z)), some (.inl nu), some (.inl dp), some (.inl x)]) rfl rfl (fun _ => rfl) (fun x5_11 ex5_11 => ?_)
  refine jv_iload_n rfl rfl rfl ?_
  refine jv_tsw rfl (And.intro (fun q => absurd q (by decide)) (fun _ => And.intro (fun q => absurd q (by decide)) (fun _ => And.intro (fun q => absurd q (by decide)) (fun _ => And.intro (fun q => absurd q (by decide)) (fun _ => And.intro (fun q => absurd q (by decide)) (fun _ => And.intro (fun q => absurd q (by decide)) (fun _ => And.intro (fun q => absurd q (by decide)) (fun _ => And.intro (fun q => absurd q (by decide)) (fun _ => And.intro (fun q => absurd q (by decide)) (fun _ => And.intro (fun q => absurd q (by decide)) (fun _ => And.intro (fun q => absurd q (by decide)) (fun _ => And.intro (fun q => absurd q (by decide)) (fun _ => And.intro (fun _ => ?_) (fun q => absurd rfl q))))))))))))))
  show jV _ _ jm_p_X0_give _ 71 [some (.inr (.inr 58)), some (.inl 22), some (.inr (.inr z)), some (.inl nu), some (.inl dp), some (.inl x5_11)] [] μ7
  refine jv_aload_n rfl rfl rfl (by decide) ?_
  refine jv_bipush rfl rfl ?_
  refine jv_aload_n rfl rfl rfl (by have := hz.2; omega) ?_
  refine jv_iload_n rfl rfl rfl ?_
  refine jv_iload rfl rfl rfl ?_
  refine jv_callV4 rfl rfl rfl rfl ⟨by decide, rfl⟩ (Nat.le_of_ble_eq_true rfl) (cl_g21 hz zb hμ7 (by omega) (by omega) hso hca hnu (fun μ76 hμ76 => ?_))
  show jV _ _ jm_p_X0_give _ 77 [some (.inr (.inr 58)), some (.inl 22), some (.inr (.inr z)), some (.inl nu), some (.inl dp), some (.inl x5_11)] [.inl (nu + (μ0 z 4))] μ76
  refine jv_sipush rfl rfl ?_
  refine jv_isub rfl rfl ⟨by omega, by omega⟩ ?_
  refine jv_ireturn rfl (Or.inl rfl) ?_
  exact k _ hμ76
set_option maxRecDepth 10000 in
theorem cl_g24 {X : jm_X} {d : Nat} {Q : jv_P} {μ : jm_M} {z nu dp n : Int} {f : Int → Int} {μ0 : jm_M} (hz : jz_com z) (zb : z < 58) (h : jtc μ0 μ n f) (hn : 0 ≤ n ∧ n + 3 ≤ 16) (hdp : 0 ≤ dp ∧ dp + 4 ≤ 16) (hso : 0 ≤ μ0 z 1 ∧ μ0 z 1 ≤ 60) (hca : 0 ≤ μ0 z 4 ∧ μ0 z 4 ≤ 999) (hnu : 0 ≤ nu ∧ nu ≤ 5) (k : ∀ μ2, jtc μ0 μ2 (n + 1 + 1 + 1) (jm_u1 (jm_u1 (jm_u1 f n 24) (n + 1) 21) (n + 1 + 1) 20) → Q [.inl (2 * (nu + (μ0 z 4)))] μ2) : cV X (d + 4) 5 [.inr (.inr 58), .inl 24, .inr (.inr z), .inl nu, .inl dp] μ Q := by
  refine jv_enter (d := d + 3) jm_p_X0_give [some (.inr (.inr 58)), some (.inl 24), some (.inr (.inr z)), some (.inl nu), some (.inl dp), none] rfl rfl rfl (Nat.le_of_ble_eq_true rfl) rfl rfl ?_
  refine jv_iload rfl rfl rfl ?_
  refine jv_bipush rfl rfl ?_
  refine jv_icmp_leT rfl rfl (by omega) ?_
  refine jv_aload_n rfl rfl rfl (by decide) ?_
  refine jv_iload_n rfl rfl rfl ?_
  refine jv_callV1 rfl rfl rfl rfl ⟨by decide, rfl⟩ (Nat.le_of_ble_eq_true rfl) (cl_leave h (by omega) (fun μ7 hμ7 => ?_))
  show jV _ _ jm_p_X0_give _ 8 [some (.inr (.inr 58)), some (.inl 24), some (.inr (.inr z)), some (.inl nu), some (.inl dp), none] [] μ7
  refine jv_iload rfl rfl rfl ?_
  refine jv_iconst rfl rfl ?_
  refine jv_iadd rfl rfl ⟨by omega, by omega⟩ ?_
  refine jv_istore (fun x => [some (.inr (.inr 58)), some (.inl 24), some (.inr (.inr z)), some (.inl nu), some (.inl dp), some (.inl x)]) rfl rfl (fun _ => rfl) (fun x5_11 ex5_11 => ?_)
  refine jv_iload_n rfl rfl rfl ?_
  refine jv_tsw rfl (And.intro (fun q => absurd q (by decide)) (fun _ => And.intro (fun q => absurd q (by decide)) (fun _ => And.intro (fun q => absurd q (by decide)) (fun _ => And.intro (fun q => absurd q (by decide)) (fun _ => And.intro (fun q => absurd q (by decide)) (fun _ => And.intro (fun q => absurd q (by decide)) (fun _ => And.intro (fun q => absurd q (by decide)) (fun _ => And.intro (fun q => absurd q (by decide)) (fun _ => And.intro (fun q => absurd q (by decide)) (fun _ => And.intro (fun q => absurd q (by decide)) (fun _ => And.intro (fun q => absurd q (by decide)) (fun _ => And.intro (fun q => absurd q (by decide)) (fun _ => And.intro (fun q => absurd q (by decide)) (fun _ => And.intro (fun q => absurd q (by decide)) (fun _ => And.intro (fun _ => ?_) (fun q => absurd rfl q))))))))))))))))
  show jV _ _ jm_p_X0_give _ 96 [some (.inr (.inr 58)), some (.inl 24), some (.inr (.inr z)), some (.inl nu), some (.inl dp), some (.inl x5_11)] [] μ7
  refine jv_iconst rfl rfl ?_
  refine jv_aload_n rfl rfl rfl (by decide) ?_
  refine jv_bipush rfl rfl ?_
  refine jv_aload_n rfl rfl rfl (by have := hz.2; omega) ?_
  refine jv_iload_n rfl rfl rfl ?_
  refine jv_iload rfl rfl rfl ?_
  refine jv_callV4 rfl rfl rfl rfl ⟨by decide, rfl⟩ (Nat.le_of_ble_eq_true rfl) (cl_g21 hz zb hμ7 (by omega) (by omega) hso hca hnu (fun μ102 hμ102 => ?_))
  show jV _ _ jm_p_X0_give _ 103 [some (.inr (.inr 58)), some (.inl 24), some (.inr (.inr z)), some (.inl nu), some (.inl dp), some (.inl x5_11)] [.inl (nu + (μ0 z 4)), .inl 2] μ102
  refine jv_imul rfl rfl ⟨by omega, by omega⟩ ?_
  refine jv_ireturn rfl (Or.inl rfl) ?_
  exact k _ hμ102
set_option maxRecDepth 10000 in
theorem cl_g13 {X : jm_X} {d : Nat} {Q : jv_P} {μ : jm_M} {z nu dp n : Int} {f : Int → Int} {μ0 : jm_M} (hz : jz_com z) (zb : z < 58) (h : jtc μ0 μ n f) (hn : 0 ≤ n ∧ n + 2 ≤ 16) (hdp : 0 ≤ dp ∧ dp + 3 ≤ 16) (hso : 0 ≤ μ0 z 1 ∧ μ0 z 1 ≤ 60) (hca : 0 ≤ μ0 z 4 ∧ μ0 z 4 ≤ 999) (hnu : 0 ≤ nu ∧ nu ≤ 5) (k : ∀ μ2, jtc μ0 μ2 (n + 1 + 1) (jm_u1 (jm_u1 f n 13) (n + 1) 10) → Q [.inl ((μ0 z 1) - 100)] μ2) : cV X (d + 3) 5 [.inr (.inr 58), .inl 13, .inr (.inr z), .inl nu, .inl dp] μ Q := by
  refine jv_enter (d := d + 2) jm_p_X0_give [some (.inr (.inr 58)), some (.inl 13), some (.inr (.inr z)), some (.inl nu), some (.inl dp), none] rfl rfl rfl (Nat.le_of_ble_eq_true rfl) rfl rfl ?_
  refine jv_iload rfl rfl rfl ?_
  refine jv_bipush rfl rfl ?_
  refine jv_icmp_leT rfl rfl (by omega) ?_
  refine jv_aload_n rfl rfl rfl (by decide) ?_
  refine jv_iload_n rfl rfl rfl ?_
  refine jv_callV1 rfl rfl rfl rfl ⟨by decide, rfl⟩ (Nat.le_of_ble_eq_true rfl) (cl_leave h (by omega) (fun μ7 hμ7 => ?_))
  show jV _ _ jm_p_X0_give _ 8 [some (.inr (.inr 58)), some (.inl 13), some (.inr (.inr z)), some (.inl nu), some (.inl dp), none] [] μ7
  refine jv_iload rfl rfl rfl ?_
  refine jv_iconst rfl rfl ?_
  refine jv_iadd rfl rfl ⟨by omega, by omega⟩ ?_
  refine jv_istore (fun x => [some (.inr (.inr 58)), some (.inl 13), some (.inr (.inr z)), some (.inl nu), some (.inl dp), some (.inl x)]) rfl rfl (fun _ => rfl) (fun x5_11 ex5_11 => ?_)
  refine jv_iload_n rfl rfl rfl ?_
  refine jv_tsw rfl (And.intro (fun q => absurd q (by decide)) (fun _ => And.intro (fun q => absurd q (by decide)) (fun _ => And.intro (fun q => absurd q (by decide)) (fun _ => And.intro (fun _ => ?_) (fun q => absurd rfl q)))))
  show jV _ _ jm_p_X0_give _ 41 [some (.inr (.inr 58)), some (.inl 13), some (.inr (.inr z)), some (.inl nu), some (.inl dp), some (.inl x5_11)] [] μ7
  refine jv_aload_n rfl rfl rfl (by decide) ?_
  refine jv_bipush rfl rfl ?_
  refine jv_aload_n rfl rfl rfl (by have := hz.2; omega) ?_
  refine jv_iload_n rfl rfl rfl ?_
  refine jv_iload rfl rfl rfl ?_
  refine jv_callV4 rfl rfl rfl rfl ⟨by decide, rfl⟩ (Nat.le_of_ble_eq_true rfl) (cl_g10 hz zb hμ7 (by omega) (by omega) hso hca hnu (fun μ46 hμ46 => ?_))
  show jV _ _ jm_p_X0_give _ 47 [some (.inr (.inr 58)), some (.inl 13), some (.inr (.inr z)), some (.inl nu), some (.inl dp), some (.inl x5_11)] [.inl (μ0 z 1)] μ46
  refine jv_bipush rfl rfl ?_
  refine jv_isub rfl rfl ⟨by omega, by omega⟩ ?_
  refine jv_ireturn rfl (Or.inl rfl) ?_
  exact k _ hμ46
set_option maxRecDepth 10000 in
theorem cl_g14 {X : jm_X} {d : Nat} {Q : jv_P} {μ : jm_M} {z nu dp n : Int} {f : Int → Int} {μ0 : jm_M} (hz : jz_com z) (zb : z < 58) (h : jtc μ0 μ n f) (hn : 0 ≤ n ∧ n + 3 ≤ 16) (hdp : 0 ≤ dp ∧ dp + 4 ≤ 16) (hso : 0 ≤ μ0 z 1 ∧ μ0 z 1 ≤ 60) (hca : 0 ≤ μ0 z 4 ∧ μ0 z 4 ≤ 999) (hnu : 0 ≤ nu ∧ nu ≤ 5) (k : ∀ μ2, jtc μ0 μ2 (n + 1 + 1 + 1) (jm_u1 (jm_u1 (jm_u1 f n 14) (n + 1) 13) (n + 1 + 1) 10) → Q [.inl (2 * ((μ0 z 1) - 100))] μ2) : cV X (d + 4) 5 [.inr (.inr 58), .inl 14, .inr (.inr z), .inl nu, .inl dp] μ Q := by
  refine jv_enter (d := d + 3) jm_p_X0_give [some (.inr (.inr 58)), some (.inl 14), some (.inr (.inr z)), some (.inl nu), some (.inl dp), none] rfl rfl rfl (Nat.le_of_ble_eq_true rfl) rfl rfl ?_
  refine jv_iload rfl rfl rfl ?_
  refine jv_bipush rfl rfl ?_
  refine jv_icmp_leT rfl rfl (by omega) ?_
  refine jv_aload_n rfl rfl rfl (by decide) ?_
  refine jv_iload_n rfl rfl rfl ?_
  refine jv_callV1 rfl rfl rfl rfl ⟨by decide, rfl⟩ (Nat.le_of_ble_eq_true rfl) (cl_leave h (by omega) (fun μ7 hμ7 => ?_))
  show jV _ _ jm_p_X0_give _ 8 [some (.inr (.inr 58)), some (.inl 14), some (.inr (.inr z)), some (.inl nu), some (.inl dp), none] [] μ7
  refine jv_iload rfl rfl rfl ?_
  refine jv_iconst rfl rfl ?_
  refine jv_iadd rfl rfl ⟨by omega, by omega⟩ ?_
  refine jv_istore (fun x => [some (.inr (.inr 58)), some (.inl 14), some (.inr (.inr z)), some (.inl nu), some (.inl dp), some (.inl x)]) rfl rfl (fun _ => rfl) (fun x5_11 ex5_11 => ?_)
  refine jv_iload_n rfl rfl rfl ?_
  refine jv_tsw rfl (And.intro (fun q => absurd q (by decide)) (fun _ => And.intro (fun q => absurd q (by decide)) (fun _ => And.intro (fun q => absurd q (by decide)) (fun _ => And.intro (fun q => absurd q (by decide)) (fun _ => And.intro (fun _ => ?_) (fun q => absurd rfl q))))))
  show jV _ _ jm_p_X0_give _ 50 [some (.inr (.inr 58)), some (.inl 14), some (.inr (.inr z)), some (.inl nu), some (.inl dp), some (.inl x5_11)] [] μ7
  refine jv_iconst rfl rfl ?_
  refine jv_aload_n rfl rfl rfl (by decide) ?_
  refine jv_bipush rfl rfl ?_
  refine jv_aload_n rfl rfl rfl (by have := hz.2; omega) ?_
  refine jv_iload_n rfl rfl rfl ?_
  refine jv_iload rfl rfl rfl ?_
  refine jv_callV4 rfl rfl rfl rfl ⟨by decide, rfl⟩ (Nat.le_of_ble_eq_true rfl) (cl_g13 hz zb hμ7 (by omega) (by omega) hso hca hnu (fun μ56 hμ56 => ?_))
  show jV _ _ jm_p_X0_give _ 57 [some (.inr (.inr 58)), some (.inl 14), some (.inr (.inr z)), some (.inl nu), some (.inl dp), some (.inl x5_11)] [.inl ((μ0 z 1) - 100), .inl 2] μ56
  refine jv_imul rfl rfl ⟨by omega, by omega⟩ ?_
  refine jv_ireturn rfl (Or.inl rfl) ?_
  exact k _ hμ56
set_option maxRecDepth 10000 in
theorem cl_g11_1 {X : jm_X} {d : Nat} {Q : jv_P} {μ : jm_M} {z nu dp n : Int} {f : Int → Int} {μ0 : jm_M} {g5 : Int → Int} (hz : jz_com z) (zb : z < 58) (h : jtc μ0 μ n f) (hn : 0 ≤ n ∧ n + 4 ≤ 16) (hdp : 0 ≤ dp ∧ dp + 5 ≤ 16) (hso : 0 ≤ μ0 z 1 ∧ μ0 z 1 ≤ 60) (hca : 0 ≤ μ0 z 4 ∧ μ0 z 4 ≤ 999) (hnu : 0 ≤ nu ∧ nu ≤ 5) (hx5 : X 5 = (6, g5)) (hs : μ0 z 0 = 1) (hg : g5 1 = 21) (k : ∀ μ2, jtc μ0 μ2 (n + 1 + 1 + 1 + 1) (jm_u1 (jm_u1 (jm_u1 (jm_u1 f n 11) (n + 1) 10) (n + 1 + 1) 21) (n + 1 + 1 + 1) 20) → Q [.inl ((μ0 z 1) + (nu + (μ0 z 4)))] μ2) : cV X (d + 5) 5 [.inr (.inr 58), .inl 11, .inr (.inr z), .inl nu, .inl dp] μ Q := by
  refine jv_enter (d := d + 4) jm_p_X0_give [some (.inr (.inr 58)), some (.inl 11), some (.inr (.inr z)), some (.inl nu), some (.inl dp), none] rfl rfl rfl (Nat.le_of_ble_eq_true rfl) rfl rfl ?_
  refine jv_iload rfl rfl rfl ?_
  refine jv_bipush rfl rfl ?_
  refine jv_icmp_leT rfl rfl (by omega) ?_
  refine jv_aload_n rfl rfl rfl (by decide) ?_
  refine jv_iload_n rfl rfl rfl ?_
  refine jv_callV1 rfl rfl rfl rfl ⟨by decide, rfl⟩ (Nat.le_of_ble_eq_true rfl) (cl_leave h (by omega) (fun μ7 hμ7 => ?_))
  show jV _ _ jm_p_X0_give _ 8 [some (.inr (.inr 58)), some (.inl 11), some (.inr (.inr z)), some (.inl nu), some (.inl dp), none] [] μ7
  refine jv_iload rfl rfl rfl ?_
  refine jv_iconst rfl rfl ?_
  refine jv_iadd rfl rfl ⟨by omega, by omega⟩ ?_
  refine jv_istore (fun x => [some (.inr (.inr 58)), some (.inl 11), some (.inr (.inr z)), some (.inl nu), some (.inl dp), some (.inl x)]) rfl rfl (fun _ => rfl) (fun x5_11 ex5_11 => ?_)
  refine jv_iload_n rfl rfl rfl ?_
  refine jv_tsw rfl (And.intro (fun q => absurd q (by decide)) (fun _ => And.intro (fun _ => ?_) (fun q => absurd rfl q)))
  show jV _ _ jm_p_X0_give _ 17 [some (.inr (.inr 58)), some (.inl 11), some (.inr (.inr z)), some (.inl nu), some (.inl dp), some (.inl x5_11)] [] μ7
  refine jv_aload_n rfl rfl rfl (by decide) ?_
  refine jv_bipush rfl rfl ?_
  refine jv_aload_n rfl rfl rfl (by have := hz.2; omega) ?_
  refine jv_iload_n rfl rfl rfl ?_
  refine jv_iload rfl rfl rfl ?_
  refine jv_callV4 rfl rfl rfl rfl ⟨by decide, rfl⟩ (Nat.le_of_ble_eq_true rfl) (cl_g10 hz zb hμ7 (by omega) (by omega) hso hca hnu (fun μ22 hμ22 => ?_))
  show jV _ _ jm_p_X0_give _ 23 [some (.inr (.inr 58)), some (.inl 11), some (.inr (.inr z)), some (.inl nu), some (.inl dp), some (.inl x5_11)] [.inl (μ0 z 1)] μ22
  refine jv_aload_n rfl rfl rfl (by decide) ?_
  refine jv_aload_n rfl rfl rfl (by have := hz.2; omega) ?_
  refine jv_iconst rfl rfl ?_
  refine jv_callS2 rfl rfl rfl (Nat.le_of_ble_eq_true rfl) (cl_bodyM hz hx5 (by rw [hμ22.1 z (by omega) (by omega)]; exact hs) (by omega) hg ?_)
  show jV _ _ jm_p_X0_give _ 27 [some (.inr (.inr 58)), some (.inl 11), some (.inr (.inr z)), some (.inl nu), some (.inl dp), some (.inl x5_11)] [.inl 21, .inr (.inr 58), .inl (μ0 z 1)] μ22
  refine jv_aload_n rfl rfl rfl (by have := hz.2; omega) ?_
  refine jv_iload_n rfl rfl rfl ?_
  refine jv_iload rfl rfl rfl ?_
  refine jv_callV4 rfl rfl rfl rfl ⟨by decide, rfl⟩ (Nat.le_of_ble_eq_true rfl) (cl_g21 hz zb hμ22 (by omega) (by omega) hso hca hnu (fun μ30 hμ30 => ?_))
  show jV _ _ jm_p_X0_give _ 31 [some (.inr (.inr 58)), some (.inl 11), some (.inr (.inr z)), some (.inl nu), some (.inl dp), some (.inl x5_11)] [.inl (nu + (μ0 z 4)), .inl (μ0 z 1)] μ30
  refine jv_iadd rfl rfl ⟨by omega, by omega⟩ ?_
  refine jv_ireturn rfl (Or.inl rfl) ?_
  exact k _ hμ30
set_option maxRecDepth 10000 in
theorem cl_g11_2 {X : jm_X} {d : Nat} {Q : jv_P} {μ : jm_M} {z nu dp n : Int} {f : Int → Int} {μ0 : jm_M} {g5 : Int → Int} (hz : jz_com z) (zb : z < 58) (h : jtc μ0 μ n f) (hn : 0 ≤ n ∧ n + 5 ≤ 16) (hdp : 0 ≤ dp ∧ dp + 5 ≤ 16) (hso : 0 ≤ μ0 z 1 ∧ μ0 z 1 ≤ 60) (hca : 0 ≤ μ0 z 4 ∧ μ0 z 4 ≤ 999) (hnu : 0 ≤ nu ∧ nu ≤ 5) (hx5 : X 5 = (6, g5)) (hs : μ0 z 0 = 2) (hg : g5 2 = 24) (k : ∀ μ2, jtc μ0 μ2 (n + 1 + 1 + 1 + 1 + 1) (jm_u1 (jm_u1 (jm_u1 (jm_u1 (jm_u1 f n 11) (n + 1) 10) (n + 1 + 1) 24) (n + 1 + 1 + 1) 21) (n + 1 + 1 + 1 + 1) 20) → Q [.inl ((μ0 z 1) + (2 * (nu + (μ0 z 4))))] μ2) : cV X (d + 5) 5 [.inr (.inr 58), .inl 11, .inr (.inr z), .inl nu, .inl dp] μ Q := by
  refine jv_enter (d := d + 4) jm_p_X0_give [some (.inr (.inr 58)), some (.inl 11), some (.inr (.inr z)), some (.inl nu), some (.inl dp), none] rfl rfl rfl (Nat.le_of_ble_eq_true rfl) rfl rfl ?_
  refine jv_iload rfl rfl rfl ?_
  refine jv_bipush rfl rfl ?_
  refine jv_icmp_leT rfl rfl (by omega) ?_
  refine jv_aload_n rfl rfl rfl (by decide) ?_
  refine jv_iload_n rfl rfl rfl ?_
  refine jv_callV1 rfl rfl rfl rfl ⟨by decide, rfl⟩ (Nat.le_of_ble_eq_true rfl) (cl_leave h (by omega) (fun μ7 hμ7 => ?_))
  show jV _ _ jm_p_X0_give _ 8 [some (.inr (.inr 58)), some (.inl 11), some (.inr (.inr z)), some (.inl nu), some (.inl dp), none] [] μ7
  refine jv_iload rfl rfl rfl ?_
  refine jv_iconst rfl rfl ?_
  refine jv_iadd rfl rfl ⟨by omega, by omega⟩ ?_
  refine jv_istore (fun x => [some (.inr (.inr 58)), some (.inl 11), some (.inr (.inr z)), some (.inl nu), some (.inl dp), some (.inl x)]) rfl rfl (fun _ => rfl) (fun x5_11 ex5_11 => ?_)
  refine jv_iload_n rfl rfl rfl ?_
  refine jv_tsw rfl (And.intro (fun q => absurd q (by decide)) (fun _ => And.intro (fun _ => ?_) (fun q => absurd rfl q)))
  show jV _ _ jm_p_X0_give _ 17 [some (.inr (.inr 58)), some (.inl 11), some (.inr (.inr z)), some (.inl nu), some (.inl dp), some (.inl x5_11)] [] μ7
  refine jv_aload_n rfl rfl rfl (by decide) ?_
  refine jv_bipush rfl rfl ?_
  refine jv_aload_n rfl rfl rfl (by have := hz.2; omega) ?_
  refine jv_iload_n rfl rfl rfl ?_
  refine jv_iload rfl rfl rfl ?_
  refine jv_callV4 rfl rfl rfl rfl ⟨by decide, rfl⟩ (Nat.le_of_ble_eq_true rfl) (cl_g10 hz zb hμ7 (by omega) (by omega) hso hca hnu (fun μ22 hμ22 => ?_))
  show jV _ _ jm_p_X0_give _ 23 [some (.inr (.inr 58)), some (.inl 11), some (.inr (.inr z)), some (.inl nu), some (.inl dp), some (.inl x5_11)] [.inl (μ0 z 1)] μ22
  refine jv_aload_n rfl rfl rfl (by decide) ?_
  refine jv_aload_n rfl rfl rfl (by have := hz.2; omega) ?_
  refine jv_iconst rfl rfl ?_
  refine jv_callS2 rfl rfl rfl (Nat.le_of_ble_eq_true rfl) (cl_bodyM hz hx5 (by rw [hμ22.1 z (by omega) (by omega)]; exact hs) (by omega) hg ?_)
  show jV _ _ jm_p_X0_give _ 27 [some (.inr (.inr 58)), some (.inl 11), some (.inr (.inr z)), some (.inl nu), some (.inl dp), some (.inl x5_11)] [.inl 24, .inr (.inr 58), .inl (μ0 z 1)] μ22
  refine jv_aload_n rfl rfl rfl (by have := hz.2; omega) ?_
  refine jv_iload_n rfl rfl rfl ?_
  refine jv_iload rfl rfl rfl ?_
  refine jv_callV4 rfl rfl rfl rfl ⟨by decide, rfl⟩ (Nat.le_of_ble_eq_true rfl) (cl_g24 hz zb hμ22 (by omega) (by omega) hso hca hnu (fun μ30 hμ30 => ?_))
  show jV _ _ jm_p_X0_give _ 31 [some (.inr (.inr 58)), some (.inl 11), some (.inr (.inr z)), some (.inl nu), some (.inl dp), some (.inl x5_11)] [.inl (2 * (nu + (μ0 z 4))), .inl (μ0 z 1)] μ30
  refine jv_iadd rfl rfl ⟨by omega, by omega⟩ ?_
  refine jv_ireturn rfl (Or.inl rfl) ?_
  exact k _ hμ30
set_option maxRecDepth 10000 in
theorem cl_g11_3 {X : jm_X} {d : Nat} {Q : jv_P} {μ : jm_M} {z nu dp n : Int} {f : Int → Int} {μ0 : jm_M} {g5 : Int → Int} (hz : jz_com z) (zb : z < 58) (h : jtc μ0 μ n f) (hn : 0 ≤ n ∧ n + 5 ≤ 16) (hdp : 0 ≤ dp ∧ dp + 5 ≤ 16) (hso : 0 ≤ μ0 z 1 ∧ μ0 z 1 ≤ 60) (hca : 0 ≤ μ0 z 4 ∧ μ0 z 4 ≤ 999) (hnu : 0 ≤ nu ∧ nu ≤ 5) (hx5 : X 5 = (6, g5)) (hs : μ0 z 0 = 3) (hg : g5 3 = 22) (k : ∀ μ2, jtc μ0 μ2 (n + 1 + 1 + 1 + 1 + 1) (jm_u1 (jm_u1 (jm_u1 (jm_u1 (jm_u1 f n 11) (n + 1) 10) (n + 1 + 1) 22) (n + 1 + 1 + 1) 21) (n + 1 + 1 + 1 + 1) 20) → Q [.inl ((μ0 z 1) + ((nu + (μ0 z 4)) - 1000))] μ2) : cV X (d + 5) 5 [.inr (.inr 58), .inl 11, .inr (.inr z), .inl nu, .inl dp] μ Q := by
  refine jv_enter (d := d + 4) jm_p_X0_give [some (.inr (.inr 58)), some (.inl 11), some (.inr (.inr z)), some (.inl nu), some (.inl dp), none] rfl rfl rfl (Nat.le_of_ble_eq_true rfl) rfl rfl ?_
  refine jv_iload rfl rfl rfl ?_
  refine jv_bipush rfl rfl ?_
  refine jv_icmp_leT rfl rfl (by omega) ?_
  refine jv_aload_n rfl rfl rfl (by decide) ?_
  refine jv_iload_n rfl rfl rfl ?_
  refine jv_callV1 rfl rfl rfl rfl ⟨by decide, rfl⟩ (Nat.le_of_ble_eq_true rfl) (cl_leave h (by omega) (fun μ7 hμ7 => ?_))
  show jV _ _ jm_p_X0_give _ 8 [some (.inr (.inr 58)), some (.inl 11), some (.inr (.inr z)), some (.inl nu), some (.inl dp), none] [] μ7
  refine jv_iload rfl rfl rfl ?_
  refine jv_iconst rfl rfl ?_
  refine jv_iadd rfl rfl ⟨by omega, by omega⟩ ?_
  refine jv_istore (fun x => [some (.inr (.inr 58)), some (.inl 11), some (.inr (.inr z)), some (.inl nu), some (.inl dp), some (.inl x)]) rfl rfl (fun _ => rfl) (fun x5_11 ex5_11 => ?_)
  refine jv_iload_n rfl rfl rfl ?_
  refine jv_tsw rfl (And.intro (fun q => absurd q (by decide)) (fun _ => And.intro (fun _ => ?_) (fun q => absurd rfl q)))
  show jV _ _ jm_p_X0_give _ 17 [some (.inr (.inr 58)), some (.inl 11), some (.inr (.inr z)), some (.inl nu), some (.inl dp), some (.inl x5_11)] [] μ7
  refine jv_aload_n rfl rfl rfl (by decide) ?_
  refine jv_bipush rfl rfl ?_
  refine jv_aload_n rfl rfl rfl (by have := hz.2; omega) ?_
  refine jv_iload_n rfl rfl rfl ?_
  refine jv_iload rfl rfl rfl ?_
  refine jv_callV4 rfl rfl rfl rfl ⟨by decide, rfl⟩ (Nat.le_of_ble_eq_true rfl) (cl_g10 hz zb hμ7 (by omega) (by omega) hso hca hnu (fun μ22 hμ22 => ?_))
  show jV _ _ jm_p_X0_give _ 23 [some (.inr (.inr 58)), some (.inl 11), some (.inr (.inr z)), some (.inl nu), some (.inl dp), some (.inl x5_11)] [.inl (μ0 z 1)] μ22
  refine jv_aload_n rfl rfl rfl (by decide) ?_
  refine jv_aload_n rfl rfl rfl (by have := hz.2; omega) ?_
  refine jv_iconst rfl rfl ?_
  refine jv_callS2 rfl rfl rfl (Nat.le_of_ble_eq_true rfl) (cl_bodyM hz hx5 (by rw [hμ22.1 z (by omega) (by omega)]; exact hs) (by omega) hg ?_)
  show jV _ _ jm_p_X0_give _ 27 [some (.inr (.inr 58)), some (.inl 11), some (.inr (.inr z)), some (.inl nu), some (.inl dp), some (.inl x5_11)] [.inl 22, .inr (.inr 58), .inl (μ0 z 1)] μ22
  refine jv_aload_n rfl rfl rfl (by have := hz.2; omega) ?_
  refine jv_iload_n rfl rfl rfl ?_
  refine jv_iload rfl rfl rfl ?_
  refine jv_callV4 rfl rfl rfl rfl ⟨by decide, rfl⟩ (Nat.le_of_ble_eq_true rfl) (cl_g22 hz zb hμ22 (by omega) (by omega) hso hca hnu (fun μ30 hμ30 => ?_))
  show jV _ _ jm_p_X0_give _ 31 [some (.inr (.inr 58)), some (.inl 11), some (.inr (.inr z)), some (.inl nu), some (.inl dp), some (.inl x5_11)] [.inl ((nu + (μ0 z 4)) - 1000), .inl (μ0 z 1)] μ30
  refine jv_iadd rfl rfl ⟨by omega, by omega⟩ ?_
  refine jv_ireturn rfl (Or.inl rfl) ?_
  exact k _ hμ30
set_option maxRecDepth 10000 in
theorem cl_g12 {X : jm_X} {d : Nat} {Q : jv_P} {μ : jm_M} {z nu dp n : Int} {f : Int → Int} {μ0 : jm_M} {g5 : Int → Int} (hz : jz_com z) (zb : z < 58) (h : jtc μ0 μ n f) (hn : 0 ≤ n ∧ n + 6 ≤ 16) (hdp : 0 ≤ dp ∧ dp + 6 ≤ 16) (hso : 0 ≤ μ0 z 1 ∧ μ0 z 1 ≤ 60) (hca : 0 ≤ μ0 z 4 ∧ μ0 z 4 ≤ 999) (hnu : 0 ≤ nu ∧ nu ≤ 5) (hx5 : X 5 = (6, g5)) (hs : μ0 z 0 = 2) (hg : g5 2 = 24) (k : ∀ μ2, jtc μ0 μ2 (n + 1 + 1 + 1 + 1 + 1 + 1) (jm_u1 (jm_u1 (jm_u1 (jm_u1 (jm_u1 (jm_u1 f n 12) (n + 1) 11) (n + 1 + 1) 10) (n + 1 + 1 + 1) 24) (n + 1 + 1 + 1 + 1) 21) (n + 1 + 1 + 1 + 1 + 1) 20) → Q [.inl (-((μ0 z 1) + (2 * (nu + (μ0 z 4)))))] μ2) : cV X (d + 6) 5 [.inr (.inr 58), .inl 12, .inr (.inr z), .inl nu, .inl dp] μ Q := by
  refine jv_enter (d := d + 5) jm_p_X0_give [some (.inr (.inr 58)), some (.inl 12), some (.inr (.inr z)), some (.inl nu), some (.inl dp), none] rfl rfl rfl (Nat.le_of_ble_eq_true rfl) rfl rfl ?_
  refine jv_iload rfl rfl rfl ?_
  refine jv_bipush rfl rfl ?_
  refine jv_icmp_leT rfl rfl (by omega) ?_
  refine jv_aload_n rfl rfl rfl (by decide) ?_
  refine jv_iload_n rfl rfl rfl ?_
  refine jv_callV1 rfl rfl rfl rfl ⟨by decide, rfl⟩ (Nat.le_of_ble_eq_true rfl) (cl_leave h (by omega) (fun μ7 hμ7 => ?_))
  show jV _ _ jm_p_X0_give _ 8 [some (.inr (.inr 58)), some (.inl 12), some (.inr (.inr z)), some (.inl nu), some (.inl dp), none] [] μ7
  refine jv_iload rfl rfl rfl ?_
  refine jv_iconst rfl rfl ?_
  refine jv_iadd rfl rfl ⟨by omega, by omega⟩ ?_
  refine jv_istore (fun x => [some (.inr (.inr 58)), some (.inl 12), some (.inr (.inr z)), some (.inl nu), some (.inl dp), some (.inl x)]) rfl rfl (fun _ => rfl) (fun x5_11 ex5_11 => ?_)
  refine jv_iload_n rfl rfl rfl ?_
  refine jv_tsw rfl (And.intro (fun q => absurd q (by decide)) (fun _ => And.intro (fun q => absurd q (by decide)) (fun _ => And.intro (fun _ => ?_) (fun q => absurd rfl q))))
  show jV _ _ jm_p_X0_give _ 33 [some (.inr (.inr 58)), some (.inl 12), some (.inr (.inr z)), some (.inl nu), some (.inl dp), some (.inl x5_11)] [] μ7
  refine jv_aload_n rfl rfl rfl (by decide) ?_
  refine jv_bipush rfl rfl ?_
  refine jv_aload_n rfl rfl rfl (by have := hz.2; omega) ?_
  refine jv_iload_n rfl rfl rfl ?_
  refine jv_iload rfl rfl rfl ?_
  refine jv_callV4 rfl rfl rfl rfl ⟨by decide, rfl⟩ (Nat.le_of_ble_eq_true rfl) (cl_g11_2 hz zb hμ7 (by omega) (by omega) hso hca hnu hx5 hs hg (fun μ38 hμ38 => ?_))
  show jV _ _ jm_p_X0_give _ 39 [some (.inr (.inr 58)), some (.inl 12), some (.inr (.inr z)), some (.inl nu), some (.inl dp), some (.inl x5_11)] [.inl ((μ0 z 1) + (2 * (nu + (μ0 z 4))))] μ38
  refine jv_ineg rfl rfl ⟨by omega, by omega⟩ ?_
  refine jv_ireturn rfl (Or.inl rfl) ?_
  exact k _ hμ38
set_option maxRecDepth 10000 in
theorem cl_g23_4 {X : jm_X} {d : Nat} {Q : jv_P} {μ : jm_M} {z nu dp n : Int} {f : Int → Int} {μ0 : jm_M} {g4 : Int → Int} (hz : jz_com z) (zb : z < 58) (h : jtc μ0 μ n f) (hn : 0 ≤ n ∧ n + 4 ≤ 16) (hdp : 0 ≤ dp ∧ dp + 6 ≤ 16) (hso : 0 ≤ μ0 z 1 ∧ μ0 z 1 ≤ 60) (hca : 0 ≤ μ0 z 4 ∧ μ0 z 4 ≤ 999) (hnu : 0 ≤ nu ∧ nu ≤ 5) (hx4 : X 4 = (6, g4)) (hs : μ0 z 0 = 4) (hg : g4 4 = 13) (k : ∀ μ2, jtc μ0 μ2 (n + 1 + 1 + 1 + 1) (jm_u1 (jm_u1 (jm_u1 (jm_u1 f n 23) (n + 1) 20) (n + 1 + 1) 13) (n + 1 + 1 + 1) 10) → Q [.inl (nu - ((μ0 z 1) - 100))] μ2) : cV X (d + 6) 5 [.inr (.inr 58), .inl 23, .inr (.inr z), .inl nu, .inl dp] μ Q := by
  refine jv_enter (d := d + 5) jm_p_X0_give [some (.inr (.inr 58)), some (.inl 23), some (.inr (.inr z)), some (.inl nu), some (.inl dp), none] rfl rfl rfl (Nat.le_of_ble_eq_true rfl) rfl rfl ?_
  refine jv_iload rfl rfl rfl ?_
  refine jv_bipush rfl rfl ?_
  refine jv_icmp_leT rfl rfl (by omega) ?_
  refine jv_aload_n rfl rfl rfl (by decide) ?_
  refine jv_iload_n rfl rfl rfl ?_
  refine jv_callV1 rfl rfl rfl rfl ⟨by decide, rfl⟩ (Nat.le_of_ble_eq_true rfl) (cl_leave h (by omega) (fun μ7 hμ7 => ?_))
  show jV _ _ jm_p_X0_give _ 8 [some (.inr (.inr 58)), some (.inl 23), some (.inr (.inr z)), some (.inl nu), some (.inl dp), none] [] μ7
  refine jv_iload rfl rfl rfl ?_
  refine jv_iconst rfl rfl ?_
  refine jv_iadd rfl rfl ⟨by omega, by omega⟩ ?_
  refine jv_istore (fun x => [some (.inr (.inr 58)), some (.inl 23), some (.inr (.inr z)), some (.inl nu), some (.inl dp), some (.inl x)]) rfl rfl (fun _ => rfl) (fun x5_11 ex5_11 => ?_)
  refine jv_iload_n rfl rfl rfl ?_
  refine jv_tsw rfl (And.intro (fun q => absurd q (by decide)) (fun _ => And.intro (fun q => absurd q (by decide)) (fun _ => And.intro (fun q => absurd q (by decide)) (fun _ => And.intro (fun q => absurd q (by decide)) (fun _ => And.intro (fun q => absurd q (by decide)) (fun _ => And.intro (fun q => absurd q (by decide)) (fun _ => And.intro (fun q => absurd q (by decide)) (fun _ => And.intro (fun q => absurd q (by decide)) (fun _ => And.intro (fun q => absurd q (by decide)) (fun _ => And.intro (fun q => absurd q (by decide)) (fun _ => And.intro (fun q => absurd q (by decide)) (fun _ => And.intro (fun q => absurd q (by decide)) (fun _ => And.intro (fun q => absurd q (by decide)) (fun _ => And.intro (fun _ => ?_) (fun q => absurd rfl q)))))))))))))))
  show jV _ _ jm_p_X0_give _ 80 [some (.inr (.inr 58)), some (.inl 23), some (.inr (.inr z)), some (.inl nu), some (.inl dp), some (.inl x5_11)] [] μ7
  refine jv_aload_n rfl rfl rfl (by decide) ?_
  refine jv_bipush rfl rfl ?_
  refine jv_aload_n rfl rfl rfl (by have := hz.2; omega) ?_
  refine jv_iload_n rfl rfl rfl ?_
  refine jv_iload rfl rfl rfl ?_
  refine jv_callV4 rfl rfl rfl rfl ⟨by decide, rfl⟩ (Nat.le_of_ble_eq_true rfl) (cl_g20 hz zb hμ7 (by omega) (by omega) hso hca hnu (fun μ85 hμ85 => ?_))
  show jV _ _ jm_p_X0_give _ 86 [some (.inr (.inr 58)), some (.inl 23), some (.inr (.inr z)), some (.inl nu), some (.inl dp), some (.inl x5_11)] [.inl nu] μ85
  refine jv_aload_n rfl rfl rfl (by decide) ?_
  refine jv_aload_n rfl rfl rfl (by have := hz.2; omega) ?_
  refine jv_iconst rfl rfl ?_
  refine jv_callS2 rfl rfl rfl (Nat.le_of_ble_eq_true rfl) (cl_bodyS hz hx4 (by rw [hμ85.1 z (by omega) (by omega)]; exact hs) (by omega) hg ?_)
  show jV _ _ jm_p_X0_give _ 90 [some (.inr (.inr 58)), some (.inl 23), some (.inr (.inr z)), some (.inl nu), some (.inl dp), some (.inl x5_11)] [.inl 13, .inr (.inr 58), .inl nu] μ85
  refine jv_aload_n rfl rfl rfl (by have := hz.2; omega) ?_
  refine jv_iload_n rfl rfl rfl ?_
  refine jv_iload rfl rfl rfl ?_
  refine jv_callV4 rfl rfl rfl rfl ⟨by decide, rfl⟩ (Nat.le_of_ble_eq_true rfl) (cl_g13 hz zb hμ85 (by omega) (by omega) hso hca hnu (fun μ93 hμ93 => ?_))
  show jV _ _ jm_p_X0_give _ 94 [some (.inr (.inr 58)), some (.inl 23), some (.inr (.inr z)), some (.inl nu), some (.inl dp), some (.inl x5_11)] [.inl ((μ0 z 1) - 100), .inl nu] μ93
  refine jv_isub rfl rfl ⟨by omega, by omega⟩ ?_
  refine jv_ireturn rfl (Or.inl rfl) ?_
  exact k _ hμ93
set_option maxRecDepth 10000 in
theorem cl_g23_5 {X : jm_X} {d : Nat} {Q : jv_P} {μ : jm_M} {z nu dp n : Int} {f : Int → Int} {μ0 : jm_M} {g4 : Int → Int} (hz : jz_com z) (zb : z < 58) (h : jtc μ0 μ n f) (hn : 0 ≤ n ∧ n + 5 ≤ 16) (hdp : 0 ≤ dp ∧ dp + 6 ≤ 16) (hso : 0 ≤ μ0 z 1 ∧ μ0 z 1 ≤ 60) (hca : 0 ≤ μ0 z 4 ∧ μ0 z 4 ≤ 999) (hnu : 0 ≤ nu ∧ nu ≤ 5) (hx4 : X 4 = (6, g4)) (hs : μ0 z 0 = 5) (hg : g4 5 = 14) (k : ∀ μ2, jtc μ0 μ2 (n + 1 + 1 + 1 + 1 + 1) (jm_u1 (jm_u1 (jm_u1 (jm_u1 (jm_u1 f n 23) (n + 1) 20) (n + 1 + 1) 14) (n + 1 + 1 + 1) 13) (n + 1 + 1 + 1 + 1) 10) → Q [.inl (nu - (2 * ((μ0 z 1) - 100)))] μ2) : cV X (d + 6) 5 [.inr (.inr 58), .inl 23, .inr (.inr z), .inl nu, .inl dp] μ Q := by
  refine jv_enter (d := d + 5) jm_p_X0_give [some (.inr (.inr 58)), some (.inl 23), some (.inr (.inr z)), some (.inl nu), some (.inl dp), none] rfl rfl rfl (Nat.le_of_ble_eq_true rfl) rfl rfl ?_
  refine jv_iload rfl rfl rfl ?_
  refine jv_bipush rfl rfl ?_
  refine jv_icmp_leT rfl rfl (by omega) ?_
  refine jv_aload_n rfl rfl rfl (by decide) ?_
  refine jv_iload_n rfl rfl rfl ?_
  refine jv_callV1 rfl rfl rfl rfl ⟨by decide, rfl⟩ (Nat.le_of_ble_eq_true rfl) (cl_leave h (by omega) (fun μ7 hμ7 => ?_))
  show jV _ _ jm_p_X0_give _ 8 [some (.inr (.inr 58)), some (.inl 23), some (.inr (.inr z)), some (.inl nu), some (.inl dp), none] [] μ7
  refine jv_iload rfl rfl rfl ?_
  refine jv_iconst rfl rfl ?_
  refine jv_iadd rfl rfl ⟨by omega, by omega⟩ ?_
  refine jv_istore (fun x => [some (.inr (.inr 58)), some (.inl 23), some (.inr (.inr z)), some (.inl nu), some (.inl dp), some (.inl x)]) rfl rfl (fun _ => rfl) (fun x5_11 ex5_11 => ?_)
  refine jv_iload_n rfl rfl rfl ?_
  refine jv_tsw rfl (And.intro (fun q => absurd q (by decide)) (fun _ => And.intro (fun q => absurd q (by decide)) (fun _ => And.intro (fun q => absurd q (by decide)) (fun _ => And.intro (fun q => absurd q (by decide)) (fun _ => And.intro (fun q => absurd q (by decide)) (fun _ => And.intro (fun q => absurd q (by decide)) (fun _ => And.intro (fun q => absurd q (by decide)) (fun _ => And.intro (fun q => absurd q (by decide)) (fun _ => And.intro (fun q => absurd q (by decide)) (fun _ => And.intro (fun q => absurd q (by decide)) (fun _ => And.intro (fun q => absurd q (by decide)) (fun _ => And.intro (fun q => absurd q (by decide)) (fun _ => And.intro (fun q => absurd q (by decide)) (fun _ => And.intro (fun _ => ?_) (fun q => absurd rfl q)))))))))))))))
  show jV _ _ jm_p_X0_give _ 80 [some (.inr (.inr 58)), some (.inl 23), some (.inr (.inr z)), some (.inl nu), some (.inl dp), some (.inl x5_11)] [] μ7
  refine jv_aload_n rfl rfl rfl (by decide) ?_
  refine jv_bipush rfl rfl ?_
  refine jv_aload_n rfl rfl rfl (by have := hz.2; omega) ?_
  refine jv_iload_n rfl rfl rfl ?_
  refine jv_iload rfl rfl rfl ?_
  refine jv_callV4 rfl rfl rfl rfl ⟨by decide, rfl⟩ (Nat.le_of_ble_eq_true rfl) (cl_g20 hz zb hμ7 (by omega) (by omega) hso hca hnu (fun μ85 hμ85 => ?_))
  show jV _ _ jm_p_X0_give _ 86 [some (.inr (.inr 58)), some (.inl 23), some (.inr (.inr z)), some (.inl nu), some (.inl dp), some (.inl x5_11)] [.inl nu] μ85
  refine jv_aload_n rfl rfl rfl (by decide) ?_
  refine jv_aload_n rfl rfl rfl (by have := hz.2; omega) ?_
  refine jv_iconst rfl rfl ?_
  refine jv_callS2 rfl rfl rfl (Nat.le_of_ble_eq_true rfl) (cl_bodyS hz hx4 (by rw [hμ85.1 z (by omega) (by omega)]; exact hs) (by omega) hg ?_)
  show jV _ _ jm_p_X0_give _ 90 [some (.inr (.inr 58)), some (.inl 23), some (.inr (.inr z)), some (.inl nu), some (.inl dp), some (.inl x5_11)] [.inl 14, .inr (.inr 58), .inl nu] μ85
  refine jv_aload_n rfl rfl rfl (by have := hz.2; omega) ?_
  refine jv_iload_n rfl rfl rfl ?_
  refine jv_iload rfl rfl rfl ?_
  refine jv_callV4 rfl rfl rfl rfl ⟨by decide, rfl⟩ (Nat.le_of_ble_eq_true rfl) (cl_g14 hz zb hμ85 (by omega) (by omega) hso hca hnu (fun μ93 hμ93 => ?_))
  show jV _ _ jm_p_X0_give _ 94 [some (.inr (.inr 58)), some (.inl 23), some (.inr (.inr z)), some (.inl nu), some (.inl dp), some (.inl x5_11)] [.inl (2 * ((μ0 z 1) - 100)), .inl nu] μ93
  refine jv_isub rfl rfl ⟨by omega, by omega⟩ ?_
  refine jv_ireturn rfl (Or.inl rfl) ?_
  exact k _ hμ93
def jansV (so y c s m : Int) : Int := if y = 0 ∧ so = 1 then (s + (c + m)) else if y = 0 ∧ so = 2 then (-(s + (2 * (c + m)))) else if y = 0 ∧ so = 3 then (s + ((c + m) - 1000)) else if y = 0 ∧ so = 4 then (s - 100) else if y = 0 ∧ so = 5 then (2 * (s - 100)) else if y = 1 ∧ so = 1 then (c + m) else if y = 1 ∧ so = 2 then (2 * (c + m)) else if y = 1 ∧ so = 3 then ((c + m) - 1000) else if y = 1 ∧ so = 4 then (c - (s - 100)) else if y = 1 ∧ so = 5 then (c - (2 * (s - 100))) else 0
def jansN (so y : Int) : Int := if y = 0 ∧ so = 1 then (0 + 1 + 1 + 1 + 1) else if y = 0 ∧ so = 2 then (0 + 1 + 1 + 1 + 1 + 1 + 1) else if y = 0 ∧ so = 3 then (0 + 1 + 1 + 1 + 1 + 1) else if y = 0 ∧ so = 4 then (0 + 1 + 1) else if y = 0 ∧ so = 5 then (0 + 1 + 1 + 1) else if y = 1 ∧ so = 1 then (0 + 1 + 1) else if y = 1 ∧ so = 2 then (0 + 1 + 1 + 1) else if y = 1 ∧ so = 3 then (0 + 1 + 1 + 1) else if y = 1 ∧ so = 4 then (0 + 1 + 1 + 1 + 1) else if y = 1 ∧ so = 5 then (0 + 1 + 1 + 1 + 1 + 1) else 0
def jansF (so y : Int) : Int → Int := if y = 0 ∧ so = 1 then (jm_u1 (jm_u1 (jm_u1 (jm_u1 (fun _ => 0) 0 11) (0 + 1) 10) (0 + 1 + 1) 21) (0 + 1 + 1 + 1) 20) else if y = 0 ∧ so = 2 then (jm_u1 (jm_u1 (jm_u1 (jm_u1 (jm_u1 (jm_u1 (fun _ => 0) 0 12) (0 + 1) 11) (0 + 1 + 1) 10) (0 + 1 + 1 + 1) 24) (0 + 1 + 1 + 1 + 1) 21) (0 + 1 + 1 + 1 + 1 + 1) 20) else if y = 0 ∧ so = 3 then (jm_u1 (jm_u1 (jm_u1 (jm_u1 (jm_u1 (fun _ => 0) 0 11) (0 + 1) 10) (0 + 1 + 1) 22) (0 + 1 + 1 + 1) 21) (0 + 1 + 1 + 1 + 1) 20) else if y = 0 ∧ so = 4 then (jm_u1 (jm_u1 (fun _ => 0) 0 13) (0 + 1) 10) else if y = 0 ∧ so = 5 then (jm_u1 (jm_u1 (jm_u1 (fun _ => 0) 0 14) (0 + 1) 13) (0 + 1 + 1) 10) else if y = 1 ∧ so = 1 then (jm_u1 (jm_u1 (fun _ => 0) 0 21) (0 + 1) 20) else if y = 1 ∧ so = 2 then (jm_u1 (jm_u1 (jm_u1 (fun _ => 0) 0 24) (0 + 1) 21) (0 + 1 + 1) 20) else if y = 1 ∧ so = 3 then (jm_u1 (jm_u1 (jm_u1 (fun _ => 0) 0 22) (0 + 1) 21) (0 + 1 + 1) 20) else if y = 1 ∧ so = 4 then (jm_u1 (jm_u1 (jm_u1 (jm_u1 (fun _ => 0) 0 23) (0 + 1) 20) (0 + 1 + 1) 13) (0 + 1 + 1 + 1) 10) else if y = 1 ∧ so = 5 then (jm_u1 (jm_u1 (jm_u1 (jm_u1 (jm_u1 (fun _ => 0) 0 23) (0 + 1) 20) (0 + 1 + 1) 14) (0 + 1 + 1 + 1) 13) (0 + 1 + 1 + 1 + 1) 10) else fun _ => 0
theorem jans_le {so y : Int} (hs : 1 ≤ so ∧ so ≤ 5) (hy : y = 0 ∨ y = 1) : 0 ≤ jansN so y ∧ jansN so y ≤ 16 := by
  rcases hy with rfl | rfl <;> rcases (show so = 1 ∨ so = 2 ∨ so = 3 ∨ so = 4 ∨ so = 5 by omega) with rfl | rfl | rfl | rfl | rfl <;> decide
set_option maxRecDepth 10000 in
theorem cl_answer {X : jm_X} {d : Nat} {Q : jv_P} {μ : jm_M} {z c so y : Int} {g4 g5 : Int → Int} (hz : jz_com z) (zb : z < 58) (hx4 : X 4 = (6, g4)) (hx5 : X 5 = (6, g5)) (h41 : g4 1 = 11) (h42 : g4 2 = 12) (h43 : g4 3 = 11) (h44 : g4 4 = 13) (h45 : g4 5 = 14) (h51 : g5 1 = 21) (h52 : g5 2 = 24) (h53 : g5 3 = 22) (h54 : g5 4 = 23) (h55 : g5 5 = 23) (hs : μ z 0 = so) (hso1 : 1 ≤ so ∧ so ≤ 5) (hy : y = 0 ∨ y = 1) (hso : 0 ≤ μ z 1 ∧ μ z 1 ≤ 60) (hca : 0 ≤ μ z 4 ∧ μ z 4 ≤ 999) (hnu : 0 ≤ c ∧ c ≤ 5) (k : ∀ μ2, jtc μ μ2 (jansN so y) (jansF so y) → Q [.inl (jansV so y c (μ z 1) (μ z 4))] μ2) : cV X (d + 8) 1 [.inr (.inr 58), .inr (.inr z), .inl c, .inl y] μ Q := by
  rcases hy with rfl | rfl
  · rcases (show so = 1 ∨ so = 2 ∨ so = 3 ∨ so = 4 ∨ so = 5 by omega) with rfl | rfl | rfl | rfl | rfl
    · refine jv_enter (d := d + 7) jm_p_X0_answer [some (.inr (.inr 58)), some (.inr (.inr z)), some (.inl c), some (.inl 0)] rfl rfl rfl (Nat.le_of_ble_eq_true rfl) rfl rfl ?_
      refine jv_aload_n rfl rfl rfl (by decide) ?_
      refine jv_iconst rfl rfl ?_
      refine jv_puti rfl rfl rfl ⟨by decide, rfl⟩ (Or.inl rfl) (fun μ2 eμ2 => ?_)
      refine jv_aload_n rfl rfl rfl (by decide) ?_
      refine jv_aload_n rfl rfl rfl (by have := hz.2; omega) ?_
      refine jv_iload_n rfl rfl rfl ?_
      have hμ2 : jtc μ μ2 0 (fun _ => 0) := ⟨fun z a b => by rw [eμ2, jm_off1 a], by rw [eμ2]; rfl, fun j j0 j1 => by exfalso; omega⟩
      refine jv_callS2 rfl rfl rfl (Nat.le_of_ble_eq_true rfl) (cl_bodyS hz hx4 (by rw [hμ2.1 z (by omega) (by omega)]; exact hs) (by omega) h41 ?_)
      show jV _ _ jm_p_X0_answer _ 7 [some (.inr (.inr 58)), some (.inr (.inr z)), some (.inl c), some (.inl 0)] [.inl 11, .inr (.inr 58)] μ2
      refine jv_aload_n rfl rfl rfl (by have := hz.2; omega) ?_
      refine jv_iload_n rfl rfl rfl ?_
      refine jv_iconst rfl rfl ?_
      refine jv_callV4 rfl rfl rfl rfl ⟨by decide, rfl⟩ (Nat.le_of_ble_eq_true rfl) (cl_g11_1 hz zb hμ2 (by omega) (by omega) hso hca hnu hx5 hs h51 (fun μ10 hμ10 => ?_))
      show jV _ _ jm_p_X0_answer _ 11 [some (.inr (.inr 58)), some (.inr (.inr z)), some (.inl c), some (.inl 0)] [.inl ((μ z 1) + (c + (μ z 4)))] μ10
      refine jv_ireturn rfl (Or.inl rfl) ?_
      exact k _ hμ10
    · refine jv_enter (d := d + 7) jm_p_X0_answer [some (.inr (.inr 58)), some (.inr (.inr z)), some (.inl c), some (.inl 0)] rfl rfl rfl (Nat.le_of_ble_eq_true rfl) rfl rfl ?_
      refine jv_aload_n rfl rfl rfl (by decide) ?_
      refine jv_iconst rfl rfl ?_
      refine jv_puti rfl rfl rfl ⟨by decide, rfl⟩ (Or.inl rfl) (fun μ2 eμ2 => ?_)
      refine jv_aload_n rfl rfl rfl (by decide) ?_
      refine jv_aload_n rfl rfl rfl (by have := hz.2; omega) ?_
      refine jv_iload_n rfl rfl rfl ?_
      have hμ2 : jtc μ μ2 0 (fun _ => 0) := ⟨fun z a b => by rw [eμ2, jm_off1 a], by rw [eμ2]; rfl, fun j j0 j1 => by exfalso; omega⟩
      refine jv_callS2 rfl rfl rfl (Nat.le_of_ble_eq_true rfl) (cl_bodyS hz hx4 (by rw [hμ2.1 z (by omega) (by omega)]; exact hs) (by omega) h42 ?_)
      show jV _ _ jm_p_X0_answer _ 7 [some (.inr (.inr 58)), some (.inr (.inr z)), some (.inl c), some (.inl 0)] [.inl 12, .inr (.inr 58)] μ2
      refine jv_aload_n rfl rfl rfl (by have := hz.2; omega) ?_
      refine jv_iload_n rfl rfl rfl ?_
      refine jv_iconst rfl rfl ?_
      refine jv_callV4 rfl rfl rfl rfl ⟨by decide, rfl⟩ (Nat.le_of_ble_eq_true rfl) (cl_g12 hz zb hμ2 (by omega) (by omega) hso hca hnu hx5 hs h52 (fun μ10 hμ10 => ?_))
      show jV _ _ jm_p_X0_answer _ 11 [some (.inr (.inr 58)), some (.inr (.inr z)), some (.inl c), some (.inl 0)] [.inl (-((μ z 1) + (2 * (c + (μ z 4)))))] μ10
      refine jv_ireturn rfl (Or.inl rfl) ?_
      exact k _ hμ10
    · refine jv_enter (d := d + 7) jm_p_X0_answer [some (.inr (.inr 58)), some (.inr (.inr z)), some (.inl c), some (.inl 0)] rfl rfl rfl (Nat.le_of_ble_eq_true rfl) rfl rfl ?_
      refine jv_aload_n rfl rfl rfl (by decide) ?_
      refine jv_iconst rfl rfl ?_
      refine jv_puti rfl rfl rfl ⟨by decide, rfl⟩ (Or.inl rfl) (fun μ2 eμ2 => ?_)
      refine jv_aload_n rfl rfl rfl (by decide) ?_
      refine jv_aload_n rfl rfl rfl (by have := hz.2; omega) ?_
      refine jv_iload_n rfl rfl rfl ?_
      have hμ2 : jtc μ μ2 0 (fun _ => 0) := ⟨fun z a b => by rw [eμ2, jm_off1 a], by rw [eμ2]; rfl, fun j j0 j1 => by exfalso; omega⟩
      refine jv_callS2 rfl rfl rfl (Nat.le_of_ble_eq_true rfl) (cl_bodyS hz hx4 (by rw [hμ2.1 z (by omega) (by omega)]; exact hs) (by omega) h43 ?_)
      show jV _ _ jm_p_X0_answer _ 7 [some (.inr (.inr 58)), some (.inr (.inr z)), some (.inl c), some (.inl 0)] [.inl 11, .inr (.inr 58)] μ2
      refine jv_aload_n rfl rfl rfl (by have := hz.2; omega) ?_
      refine jv_iload_n rfl rfl rfl ?_
      refine jv_iconst rfl rfl ?_
      refine jv_callV4 rfl rfl rfl rfl ⟨by decide, rfl⟩ (Nat.le_of_ble_eq_true rfl) (cl_g11_3 hz zb hμ2 (by omega) (by omega) hso hca hnu hx5 hs h53 (fun μ10 hμ10 => ?_))
      show jV _ _ jm_p_X0_answer _ 11 [some (.inr (.inr 58)), some (.inr (.inr z)), some (.inl c), some (.inl 0)] [.inl ((μ z 1) + ((c + (μ z 4)) - 1000))] μ10
      refine jv_ireturn rfl (Or.inl rfl) ?_
      exact k _ hμ10
    · refine jv_enter (d := d + 7) jm_p_X0_answer [some (.inr (.inr 58)), some (.inr (.inr z)), some (.inl c), some (.inl 0)] rfl rfl rfl (Nat.le_of_ble_eq_true rfl) rfl rfl ?_
      refine jv_aload_n rfl rfl rfl (by decide) ?_
      refine jv_iconst rfl rfl ?_
      refine jv_puti rfl rfl rfl ⟨by decide, rfl⟩ (Or.inl rfl) (fun μ2 eμ2 => ?_)
      refine jv_aload_n rfl rfl rfl (by decide) ?_
      refine jv_aload_n rfl rfl rfl (by have := hz.2; omega) ?_
      refine jv_iload_n rfl rfl rfl ?_
      have hμ2 : jtc μ μ2 0 (fun _ => 0) := ⟨fun z a b => by rw [eμ2, jm_off1 a], by rw [eμ2]; rfl, fun j j0 j1 => by exfalso; omega⟩
      refine jv_callS2 rfl rfl rfl (Nat.le_of_ble_eq_true rfl) (cl_bodyS hz hx4 (by rw [hμ2.1 z (by omega) (by omega)]; exact hs) (by omega) h44 ?_)
      show jV _ _ jm_p_X0_answer _ 7 [some (.inr (.inr 58)), some (.inr (.inr z)), some (.inl c), some (.inl 0)] [.inl 13, .inr (.inr 58)] μ2
      refine jv_aload_n rfl rfl rfl (by have := hz.2; omega) ?_
      refine jv_iload_n rfl rfl rfl ?_
      refine jv_iconst rfl rfl ?_
      refine jv_callV4 rfl rfl rfl rfl ⟨by decide, rfl⟩ (Nat.le_of_ble_eq_true rfl) (cl_g13 hz zb hμ2 (by omega) (by omega) hso hca hnu (fun μ10 hμ10 => ?_))
      show jV _ _ jm_p_X0_answer _ 11 [some (.inr (.inr 58)), some (.inr (.inr z)), some (.inl c), some (.inl 0)] [.inl ((μ z 1) - 100)] μ10
      refine jv_ireturn rfl (Or.inl rfl) ?_
      exact k _ hμ10
    · refine jv_enter (d := d + 7) jm_p_X0_answer [some (.inr (.inr 58)), some (.inr (.inr z)), some (.inl c), some (.inl 0)] rfl rfl rfl (Nat.le_of_ble_eq_true rfl) rfl rfl ?_
      refine jv_aload_n rfl rfl rfl (by decide) ?_
      refine jv_iconst rfl rfl ?_
      refine jv_puti rfl rfl rfl ⟨by decide, rfl⟩ (Or.inl rfl) (fun μ2 eμ2 => ?_)
      refine jv_aload_n rfl rfl rfl (by decide) ?_
      refine jv_aload_n rfl rfl rfl (by have := hz.2; omega) ?_
      refine jv_iload_n rfl rfl rfl ?_
      have hμ2 : jtc μ μ2 0 (fun _ => 0) := ⟨fun z a b => by rw [eμ2, jm_off1 a], by rw [eμ2]; rfl, fun j j0 j1 => by exfalso; omega⟩
      refine jv_callS2 rfl rfl rfl (Nat.le_of_ble_eq_true rfl) (cl_bodyS hz hx4 (by rw [hμ2.1 z (by omega) (by omega)]; exact hs) (by omega) h45 ?_)
      show jV _ _ jm_p_X0_answer _ 7 [some (.inr (.inr 58)), some (.inr (.inr z)), some (.inl c), some (.inl 0)] [.inl 14, .inr (.inr 58)] μ2
      refine jv_aload_n rfl rfl rfl (by have := hz.2; omega) ?_
      refine jv_iload_n rfl rfl rfl ?_
      refine jv_iconst rfl rfl ?_
      refine jv_callV4 rfl rfl rfl rfl ⟨by decide, rfl⟩ (Nat.le_of_ble_eq_true rfl) (cl_g14 hz zb hμ2 (by omega) (by omega) hso hca hnu (fun μ10 hμ10 => ?_))
      show jV _ _ jm_p_X0_answer _ 11 [some (.inr (.inr 58)), some (.inr (.inr z)), some (.inl c), some (.inl 0)] [.inl (2 * ((μ z 1) - 100))] μ10
      refine jv_ireturn rfl (Or.inl rfl) ?_
      exact k _ hμ10
  · rcases (show so = 1 ∨ so = 2 ∨ so = 3 ∨ so = 4 ∨ so = 5 by omega) with rfl | rfl | rfl | rfl | rfl
    · refine jv_enter (d := d + 7) jm_p_X0_answer [some (.inr (.inr 58)), some (.inr (.inr z)), some (.inl c), some (.inl 1)] rfl rfl rfl (Nat.le_of_ble_eq_true rfl) rfl rfl ?_
      refine jv_aload_n rfl rfl rfl (by decide) ?_
      refine jv_iconst rfl rfl ?_
      refine jv_puti rfl rfl rfl ⟨by decide, rfl⟩ (Or.inl rfl) (fun μ2 eμ2 => ?_)
      refine jv_aload_n rfl rfl rfl (by decide) ?_
      refine jv_aload_n rfl rfl rfl (by have := hz.2; omega) ?_
      refine jv_iload_n rfl rfl rfl ?_
      have hμ2 : jtc μ μ2 0 (fun _ => 0) := ⟨fun z a b => by rw [eμ2, jm_off1 a], by rw [eμ2]; rfl, fun j j0 j1 => by exfalso; omega⟩
      refine jv_callS2 rfl rfl rfl (Nat.le_of_ble_eq_true rfl) (cl_bodyM hz hx5 (by rw [hμ2.1 z (by omega) (by omega)]; exact hs) (by omega) h51 ?_)
      show jV _ _ jm_p_X0_answer _ 7 [some (.inr (.inr 58)), some (.inr (.inr z)), some (.inl c), some (.inl 1)] [.inl 21, .inr (.inr 58)] μ2
      refine jv_aload_n rfl rfl rfl (by have := hz.2; omega) ?_
      refine jv_iload_n rfl rfl rfl ?_
      refine jv_iconst rfl rfl ?_
      refine jv_callV4 rfl rfl rfl rfl ⟨by decide, rfl⟩ (Nat.le_of_ble_eq_true rfl) (cl_g21 hz zb hμ2 (by omega) (by omega) hso hca hnu (fun μ10 hμ10 => ?_))
      show jV _ _ jm_p_X0_answer _ 11 [some (.inr (.inr 58)), some (.inr (.inr z)), some (.inl c), some (.inl 1)] [.inl (c + (μ z 4))] μ10
      refine jv_ireturn rfl (Or.inl rfl) ?_
      exact k _ hμ10
    · refine jv_enter (d := d + 7) jm_p_X0_answer [some (.inr (.inr 58)), some (.inr (.inr z)), some (.inl c), some (.inl 1)] rfl rfl rfl (Nat.le_of_ble_eq_true rfl) rfl rfl ?_
      refine jv_aload_n rfl rfl rfl (by decide) ?_
      refine jv_iconst rfl rfl ?_
      refine jv_puti rfl rfl rfl ⟨by decide, rfl⟩ (Or.inl rfl) (fun μ2 eμ2 => ?_)
      refine jv_aload_n rfl rfl rfl (by decide) ?_
      refine jv_aload_n rfl rfl rfl (by have := hz.2; omega) ?_
      refine jv_iload_n rfl rfl rfl ?_
      have hμ2 : jtc μ μ2 0 (fun _ => 0) := ⟨fun z a b => by rw [eμ2, jm_off1 a], by rw [eμ2]; rfl, fun j j0 j1 => by exfalso; omega⟩
      refine jv_callS2 rfl rfl rfl (Nat.le_of_ble_eq_true rfl) (cl_bodyM hz hx5 (by rw [hμ2.1 z (by omega) (by omega)]; exact hs) (by omega) h52 ?_)
      show jV _ _ jm_p_X0_answer _ 7 [some (.inr (.inr 58)), some (.inr (.inr z)), some (.inl c), some (.inl 1)] [.inl 24, .inr (.inr 58)] μ2
      refine jv_aload_n rfl rfl rfl (by have := hz.2; omega) ?_
      refine jv_iload_n rfl rfl rfl ?_
      refine jv_iconst rfl rfl ?_
      refine jv_callV4 rfl rfl rfl rfl ⟨by decide, rfl⟩ (Nat.le_of_ble_eq_true rfl) (cl_g24 hz zb hμ2 (by omega) (by omega) hso hca hnu (fun μ10 hμ10 => ?_))
      show jV _ _ jm_p_X0_answer _ 11 [some (.inr (.inr 58)), some (.inr (.inr z)), some (.inl c), some (.inl 1)] [.inl (2 * (c + (μ z 4)))] μ10
      refine jv_ireturn rfl (Or.inl rfl) ?_
      exact k _ hμ10
    · refine jv_enter (d := d + 7) jm_p_X0_answer [some (.inr (.inr 58)), some (.inr (.inr z)), some (.inl c), some (.inl 1)] rfl rfl rfl (Nat.le_of_ble_eq_true rfl) rfl rfl ?_
      refine jv_aload_n rfl rfl rfl (by decide) ?_
      refine jv_iconst rfl rfl ?_
      refine jv_puti rfl rfl rfl ⟨by decide, rfl⟩ (Or.inl rfl) (fun μ2 eμ2 => ?_)
      refine jv_aload_n rfl rfl rfl (by decide) ?_
      refine jv_aload_n rfl rfl rfl (by have := hz.2; omega) ?_
      refine jv_iload_n rfl rfl rfl ?_
      have hμ2 : jtc μ μ2 0 (fun _ => 0) := ⟨fun z a b => by rw [eμ2, jm_off1 a], by rw [eμ2]; rfl, fun j j0 j1 => by exfalso; omega⟩
      refine jv_callS2 rfl rfl rfl (Nat.le_of_ble_eq_true rfl) (cl_bodyM hz hx5 (by rw [hμ2.1 z (by omega) (by omega)]; exact hs) (by omega) h53 ?_)
      show jV _ _ jm_p_X0_answer _ 7 [some (.inr (.inr 58)), some (.inr (.inr z)), some (.inl c), some (.inl 1)] [.inl 22, .inr (.inr 58)] μ2
      refine jv_aload_n rfl rfl rfl (by have := hz.2; omega) ?_
      refine jv_iload_n rfl rfl rfl ?_
      refine jv_iconst rfl rfl ?_
      refine jv_callV4 rfl rfl rfl rfl ⟨by decide, rfl⟩ (Nat.le_of_ble_eq_true rfl) (cl_g22 hz zb hμ2 (by omega) (by omega) hso hca hnu (fun μ10 hμ10 => ?_))
      show jV _ _ jm_p_X0_answer _ 11 [some (.inr (.inr 58)), some (.inr (.inr z)), some (.inl c), some (.inl 1)] [.inl ((c + (μ z 4)) - 1000)] μ10
      refine jv_ireturn rfl (Or.inl rfl) ?_
      exact k _ hμ10
    · refine jv_enter (d := d + 7) jm_p_X0_answer [some (.inr (.inr 58)), some (.inr (.inr z)), some (.inl c), some (.inl 1)] rfl rfl rfl (Nat.le_of_ble_eq_true rfl) rfl rfl ?_
      refine jv_aload_n rfl rfl rfl (by decide) ?_
      refine jv_iconst rfl rfl ?_
      refine jv_puti rfl rfl rfl ⟨by decide, rfl⟩ (Or.inl rfl) (fun μ2 eμ2 => ?_)
      refine jv_aload_n rfl rfl rfl (by decide) ?_
      refine jv_aload_n rfl rfl rfl (by have := hz.2; omega) ?_
      refine jv_iload_n rfl rfl rfl ?_
      have hμ2 : jtc μ μ2 0 (fun _ => 0) := ⟨fun z a b => by rw [eμ2, jm_off1 a], by rw [eμ2]; rfl, fun j j0 j1 => by exfalso; omega⟩
      refine jv_callS2 rfl rfl rfl (Nat.le_of_ble_eq_true rfl) (cl_bodyM hz hx5 (by rw [hμ2.1 z (by omega) (by omega)]; exact hs) (by omega) h54 ?_)
      show jV _ _ jm_p_X0_answer _ 7 [some (.inr (.inr 58)), some (.inr (.inr z)), some (.inl c), some (.inl 1)] [.inl 23, .inr (.inr 58)] μ2
      refine jv_aload_n rfl rfl rfl (by have := hz.2; omega) ?_
      refine jv_iload_n rfl rfl rfl ?_
      refine jv_iconst rfl rfl ?_
      refine jv_callV4 rfl rfl rfl rfl ⟨by decide, rfl⟩ (Nat.le_of_ble_eq_true rfl) (cl_g23_4 hz zb hμ2 (by omega) (by omega) hso hca hnu hx4 hs h44 (fun μ10 hμ10 => ?_))
      show jV _ _ jm_p_X0_answer _ 11 [some (.inr (.inr 58)), some (.inr (.inr z)), some (.inl c), some (.inl 1)] [.inl (c - ((μ z 1) - 100))] μ10
      refine jv_ireturn rfl (Or.inl rfl) ?_
      exact k _ hμ10
    · refine jv_enter (d := d + 7) jm_p_X0_answer [some (.inr (.inr 58)), some (.inr (.inr z)), some (.inl c), some (.inl 1)] rfl rfl rfl (Nat.le_of_ble_eq_true rfl) rfl rfl ?_
      refine jv_aload_n rfl rfl rfl (by decide) ?_
      refine jv_iconst rfl rfl ?_
      refine jv_puti rfl rfl rfl ⟨by decide, rfl⟩ (Or.inl rfl) (fun μ2 eμ2 => ?_)
      refine jv_aload_n rfl rfl rfl (by decide) ?_
      refine jv_aload_n rfl rfl rfl (by have := hz.2; omega) ?_
      refine jv_iload_n rfl rfl rfl ?_
      have hμ2 : jtc μ μ2 0 (fun _ => 0) := ⟨fun z a b => by rw [eμ2, jm_off1 a], by rw [eμ2]; rfl, fun j j0 j1 => by exfalso; omega⟩
      refine jv_callS2 rfl rfl rfl (Nat.le_of_ble_eq_true rfl) (cl_bodyM hz hx5 (by rw [hμ2.1 z (by omega) (by omega)]; exact hs) (by omega) h55 ?_)
      show jV _ _ jm_p_X0_answer _ 7 [some (.inr (.inr 58)), some (.inr (.inr z)), some (.inl c), some (.inl 1)] [.inl 23, .inr (.inr 58)] μ2
      refine jv_aload_n rfl rfl rfl (by have := hz.2; omega) ?_
      refine jv_iload_n rfl rfl rfl ?_
      refine jv_iconst rfl rfl ?_
      refine jv_callV4 rfl rfl rfl rfl ⟨by decide, rfl⟩ (Nat.le_of_ble_eq_true rfl) (cl_g23_5 hz zb hμ2 (by omega) (by omega) hso hca hnu hx4 hs h45 (fun μ10 hμ10 => ?_))
      show jV _ _ jm_p_X0_answer _ 11 [some (.inr (.inr 58)), some (.inr (.inr z)), some (.inl c), some (.inl 1)] [.inl (c - (2 * ((μ z 1) - 100)))] μ10
      refine jv_ireturn rfl (Or.inl rfl) ?_
      exact k _ hμ10
set_option maxRecDepth 10000 in
theorem mo_lentSize {X : jm_X} {d : Nat} {Q : jv_P} {μ : jm_M} {c n : Int} {f : Int → Int} {μ0 : jm_M} (h : jtm μ0 μ n f) (hn : 0 ≤ n ∧ n + 1 ≤ 16) (hc : 0 ≤ c ∧ c ≤ 5) (hso : 0 ≤ μ0 95 (38 + c) ∧ μ0 95 (38 + c) ≤ 60) (hca : 0 ≤ μ0 95 (56 + c) ∧ μ0 95 (56 + c) ≤ 999) (k : ∀ μ2, jtm μ0 μ2 (n + 1) (jm_u1 f n 10) → Q [.inl (μ0 95 (38 + c))] μ2) : cV X (d + 2) 210 [.inr (.inr 94), .inl c] μ Q := by
  refine jv_enter (d := d + 1) jm_p_X10_lentSize [some (.inr (.inr 94)), some (.inl c)] rfl rfl rfl (Nat.le_of_ble_eq_true rfl) rfl rfl ?_
  refine jv_aload_n rfl rfl rfl (by decide) ?_
  refine jv_bipush rfl rfl ?_
  refine jv_callV1 rfl rfl rfl rfl ⟨by decide, rfl⟩ (Nat.le_of_ble_eq_true rfl) (mo_begin h (by omega)  (fun μ2 hμ2 => ?_))
  show jV _ _ jm_p_X10_lentSize _ 3 [some (.inr (.inr 94)), some (.inl c)] [] μ2
  refine jv_aload_n rfl rfl rfl (by decide) ?_
  refine jv_getr (w := 95) rfl rfl rfl ⟨by decide, rfl⟩ rfl rfl ?_
  refine jv_bipush rfl rfl ?_
  refine jv_iload_n rfl rfl rfl ?_
  refine jv_iadd rfl rfl ⟨by omega, by omega⟩ ?_
  refine jv_iaload rfl rfl (by decide) rfl ⟨by omega, by omega⟩ ?_
  rw [hμ2.1 95 (by decide) (by decide)]
  refine jv_ireturn rfl (Or.inl rfl) ?_
  exact k _ hμ2
set_option maxRecDepth 10000 in
theorem mo_lentMark {X : jm_X} {d : Nat} {Q : jv_P} {μ : jm_M} {c n : Int} {f : Int → Int} {μ0 : jm_M} (h : jtm μ0 μ n f) (hn : 0 ≤ n ∧ n + 1 ≤ 16) (hc : 0 ≤ c ∧ c ≤ 5) (hso : 0 ≤ μ0 95 (38 + c) ∧ μ0 95 (38 + c) ≤ 60) (hca : 0 ≤ μ0 95 (56 + c) ∧ μ0 95 (56 + c) ≤ 999) (k : ∀ μ2, jtm μ0 μ2 (n + 1) (jm_u1 f n 20) → Q [.inl c] μ2) : cV X (d + 2) 214 [.inr (.inr 94), .inl c] μ Q := by
  refine jv_enter (d := d + 1) jm_p_X10_lentMark [some (.inr (.inr 94)), some (.inl c)] rfl rfl rfl (Nat.le_of_ble_eq_true rfl) rfl rfl ?_
  refine jv_aload_n rfl rfl rfl (by decide) ?_
  refine jv_bipush rfl rfl ?_
  refine jv_callV1 rfl rfl rfl rfl ⟨by decide, rfl⟩ (Nat.le_of_ble_eq_true rfl) (mo_begin h (by omega)  (fun μ2 hμ2 => ?_))
  show jV _ _ jm_p_X10_lentMark _ 3 [some (.inr (.inr 94)), some (.inl c)] [] μ2
  refine jv_iload_n rfl rfl rfl ?_
  refine jv_ireturn rfl (Or.inl rfl) ?_
  exact k _ hμ2
set_option maxRecDepth 10000 in
theorem mo_wiperMark {X : jm_X} {d : Nat} {Q : jv_P} {μ : jm_M} {c n : Int} {f : Int → Int} {μ0 : jm_M} (h : jtm μ0 μ n f) (hn : 0 ≤ n ∧ n + 2 ≤ 16) (hc : 0 ≤ c ∧ c ≤ 5) (hso : 0 ≤ μ0 95 (38 + c) ∧ μ0 95 (38 + c) ≤ 60) (hca : 0 ≤ μ0 95 (56 + c) ∧ μ0 95 (56 + c) ≤ 999) (k : ∀ μ2, jtm μ0 μ2 (n + 1 + 1) (jm_u1 (jm_u1 f n 21) (n + 1) 20) → Q [.inl (c + (μ0 95 (56 + c)))] μ2) : cV X (d + 3) 215 [.inr (.inr 94), .inl c] μ Q := by
  refine jv_enter (d := d + 2) jm_p_X10_wiperMark [some (.inr (.inr 94)), some (.inl c)] rfl rfl rfl (Nat.le_of_ble_eq_true rfl) rfl rfl ?_
  refine jv_aload_n rfl rfl rfl (by decide) ?_
  refine jv_bipush rfl rfl ?_
  refine jv_callV1 rfl rfl rfl rfl ⟨by decide, rfl⟩ (Nat.le_of_ble_eq_true rfl) (mo_begin h (by omega)  (fun μ2 hμ2 => ?_))
  show jV _ _ jm_p_X10_wiperMark _ 3 [some (.inr (.inr 94)), some (.inl c)] [] μ2
  refine jv_aload_n rfl rfl rfl (by decide) ?_
  refine jv_iload_n rfl rfl rfl ?_
  refine jv_callV1 rfl rfl rfl rfl ⟨by decide, rfl⟩ (Nat.le_of_ble_eq_true rfl) (mo_lentMark hμ2 (by omega) hc hso hca (fun μ5 hμ5 => ?_))
  show jV _ _ jm_p_X10_wiperMark _ 6 [some (.inr (.inr 94)), some (.inl c)] [.inl c] μ5
  refine jv_aload_n rfl rfl rfl (by decide) ?_
  refine jv_getr (w := 95) rfl rfl rfl ⟨by decide, rfl⟩ rfl rfl ?_
  refine jv_bipush rfl rfl ?_
  refine jv_iload_n rfl rfl rfl ?_
  refine jv_iadd rfl rfl ⟨by omega, by omega⟩ ?_
  refine jv_iaload rfl rfl (by decide) rfl ⟨by omega, by omega⟩ ?_
  rw [hμ5.1 95 (by decide) (by decide)]
  refine jv_iadd rfl rfl ⟨by omega, by omega⟩ ?_
  refine jv_ireturn rfl (Or.inl rfl) ?_
  exact k _ hμ5
set_option maxRecDepth 10000 in
theorem mo_mark1 {X : jm_X} {d : Nat} {Q : jv_P} {μ : jm_M} {c n : Int} {f : Int → Int} {μ0 : jm_M} (h : jtm μ0 μ n f) (hn : 0 ≤ n ∧ n + 2 ≤ 16) (hc : 0 ≤ c ∧ c ≤ 5) (hso : 0 ≤ μ0 95 (38 + c) ∧ μ0 95 (38 + c) ≤ 60) (hca : 0 ≤ μ0 95 (56 + c) ∧ μ0 95 (56 + c) ≤ 999) (hs : μ0 95 (32 + c) = 1) (k : ∀ μ2, jtm μ0 μ2 (n + 1 + 1) (jm_u1 (jm_u1 f n 21) (n + 1) 20) → Q [.inl (c + (μ0 95 (56 + c)))] μ2) : cV X (d + 4) 216 [.inr (.inr 94), .inl c] μ Q := by
  refine jv_enter (d := d + 3) jm_p_X10_mark [some (.inr (.inr 94)), some (.inl c)] rfl rfl rfl (Nat.le_of_ble_eq_true rfl) rfl rfl ?_
  refine jv_aload_n rfl rfl rfl (by decide) ?_
  refine jv_getr (w := 95) rfl rfl rfl ⟨by decide, rfl⟩ rfl rfl ?_
  refine jv_bipush rfl rfl ?_
  refine jv_iload_n rfl rfl rfl ?_
  refine jv_iadd rfl rfl ⟨by omega, by omega⟩ ?_
  refine jv_iaload rfl rfl (by decide) rfl ⟨by omega, by omega⟩ ?_
  rw [h.1 95 (by decide) (by decide)]
  rw [hs]
  refine jv_lsw rfl (And.intro (fun q => absurd q (by decide)) (fun _ => And.intro (fun q => absurd q (by decide)) (fun _ => jm_sw_1 ?_)))
  show jV _ _ jm_p_X10_mark _ 25 [some (.inr (.inr 94)), some (.inl c)] [] μ
  refine jv_aload_n rfl rfl rfl (by decide) ?_
  refine jv_iload_n rfl rfl rfl ?_
  refine jv_callV1 rfl rfl rfl rfl ⟨by decide, rfl⟩ (Nat.le_of_ble_eq_true rfl) (mo_wiperMark h (by omega) hc hso hca (fun μ27 hμ27 => ?_))
  show jV _ _ jm_p_X10_mark _ 28 [some (.inr (.inr 94)), some (.inl c)] [.inl (c + (μ0 95 (56 + c)))] μ27
  refine jv_ireturn rfl (Or.inl rfl) ?_
  exact k _ hμ27
set_option maxRecDepth 10000 in
theorem mo_mark2 {X : jm_X} {d : Nat} {Q : jv_P} {μ : jm_M} {c n : Int} {f : Int → Int} {μ0 : jm_M} (h : jtm μ0 μ n f) (hn : 0 ≤ n ∧ n + 3 ≤ 16) (hc : 0 ≤ c ∧ c ≤ 5) (hso : 0 ≤ μ0 95 (38 + c) ∧ μ0 95 (38 + c) ≤ 60) (hca : 0 ≤ μ0 95 (56 + c) ∧ μ0 95 (56 + c) ≤ 999) (hs : μ0 95 (32 + c) = 2) (k : ∀ μ2, jtm μ0 μ2 (n + 1 + 1 + 1) (jm_u1 (jm_u1 (jm_u1 f n 24) (n + 1) 21) (n + 1 + 1) 20) → Q [.inl (2 * (c + (μ0 95 (56 + c))))] μ2) : cV X (d + 4) 216 [.inr (.inr 94), .inl c] μ Q := by
  refine jv_enter (d := d + 3) jm_p_X10_mark [some (.inr (.inr 94)), some (.inl c)] rfl rfl rfl (Nat.le_of_ble_eq_true rfl) rfl rfl ?_
  refine jv_aload_n rfl rfl rfl (by decide) ?_
  refine jv_getr (w := 95) rfl rfl rfl ⟨by decide, rfl⟩ rfl rfl ?_
  refine jv_bipush rfl rfl ?_
  refine jv_iload_n rfl rfl rfl ?_
  refine jv_iadd rfl rfl ⟨by omega, by omega⟩ ?_
  refine jv_iaload rfl rfl (by decide) rfl ⟨by omega, by omega⟩ ?_
  rw [h.1 95 (by decide) (by decide)]
  rw [hs]
  refine jv_lsw rfl (And.intro (fun _ => ?_) (fun q => absurd rfl q))
  show jV _ _ jm_p_X10_mark _ 16 [some (.inr (.inr 94)), some (.inl c)] [] μ
  refine jv_aload_n rfl rfl rfl (by decide) ?_
  refine jv_bipush rfl rfl ?_
  refine jv_callV1 rfl rfl rfl rfl ⟨by decide, rfl⟩ (Nat.le_of_ble_eq_true rfl) (mo_begin h (by omega)  (fun μ18 hμ18 => ?_))
  show jV _ _ jm_p_X10_mark _ 19 [some (.inr (.inr 94)), some (.inl c)] [] μ18
  refine jv_iconst rfl rfl ?_
  refine jv_aload_n rfl rfl rfl (by decide) ?_
  refine jv_iload_n rfl rfl rfl ?_
  refine jv_callV1 rfl rfl rfl rfl ⟨by decide, rfl⟩ (Nat.le_of_ble_eq_true rfl) (mo_wiperMark hμ18 (by omega) hc hso hca (fun μ22 hμ22 => ?_))
  show jV _ _ jm_p_X10_mark _ 23 [some (.inr (.inr 94)), some (.inl c)] [.inl (c + (μ0 95 (56 + c))), .inl 2] μ22
  refine jv_imul rfl rfl ⟨by omega, by omega⟩ ?_
  refine jv_ireturn rfl (Or.inl rfl) ?_
  exact k _ hμ22
set_option maxRecDepth 10000 in
theorem mo_mark3 {X : jm_X} {d : Nat} {Q : jv_P} {μ : jm_M} {c n : Int} {f : Int → Int} {μ0 : jm_M} (h : jtm μ0 μ n f) (hn : 0 ≤ n ∧ n + 3 ≤ 16) (hc : 0 ≤ c ∧ c ≤ 5) (hso : 0 ≤ μ0 95 (38 + c) ∧ μ0 95 (38 + c) ≤ 60) (hca : 0 ≤ μ0 95 (56 + c) ∧ μ0 95 (56 + c) ≤ 999) (hs : μ0 95 (32 + c) = 3) (k : ∀ μ2, jtm μ0 μ2 (n + 1 + 1 + 1) (jm_u1 (jm_u1 (jm_u1 f n 22) (n + 1) 21) (n + 1 + 1) 20) → Q [.inl ((c + (μ0 95 (56 + c))) - 1000)] μ2) : cV X (d + 4) 216 [.inr (.inr 94), .inl c] μ Q := by
  refine jv_enter (d := d + 3) jm_p_X10_mark [some (.inr (.inr 94)), some (.inl c)] rfl rfl rfl (Nat.le_of_ble_eq_true rfl) rfl rfl ?_
  refine jv_aload_n rfl rfl rfl (by decide) ?_
  refine jv_getr (w := 95) rfl rfl rfl ⟨by decide, rfl⟩ rfl rfl ?_
  refine jv_bipush rfl rfl ?_
  refine jv_iload_n rfl rfl rfl ?_
  refine jv_iadd rfl rfl ⟨by omega, by omega⟩ ?_
  refine jv_iaload rfl rfl (by decide) rfl ⟨by omega, by omega⟩ ?_
  rw [h.1 95 (by decide) (by decide)]
  rw [hs]
  refine jv_lsw rfl (And.intro (fun q => absurd q (by decide)) (fun _ => And.intro (fun _ => ?_) (fun q => absurd rfl q)))
  show jV _ _ jm_p_X10_mark _ 7 [some (.inr (.inr 94)), some (.inl c)] [] μ
  refine jv_aload_n rfl rfl rfl (by decide) ?_
  refine jv_bipush rfl rfl ?_
  refine jv_callV1 rfl rfl rfl rfl ⟨by decide, rfl⟩ (Nat.le_of_ble_eq_true rfl) (mo_begin h (by omega)  (fun μ9 hμ9 => ?_))
  show jV _ _ jm_p_X10_mark _ 10 [some (.inr (.inr 94)), some (.inl c)] [] μ9
  refine jv_aload_n rfl rfl rfl (by decide) ?_
  refine jv_iload_n rfl rfl rfl ?_
  refine jv_callV1 rfl rfl rfl rfl ⟨by decide, rfl⟩ (Nat.le_of_ble_eq_true rfl) (mo_wiperMark hμ9 (by omega) hc hso hca (fun μ12 hμ12 => ?_))
  show jV _ _ jm_p_X10_mark _ 13 [some (.inr (.inr 94)), some (.inl c)] [.inl (c + (μ0 95 (56 + c)))] μ12
  refine jv_sipush rfl rfl ?_
  refine jv_isub rfl rfl ⟨by omega, by omega⟩ ?_
  refine jv_ireturn rfl (Or.inl rfl) ?_
  exact k _ hμ12
set_option maxRecDepth 10000 in
theorem mo_stSize {X : jm_X} {d : Nat} {Q : jv_P} {μ : jm_M} {c n : Int} {f : Int → Int} {μ0 : jm_M} (h : jtm μ0 μ n f) (hn : 0 ≤ n ∧ n + 2 ≤ 16) (hc : 0 ≤ c ∧ c ≤ 5) (hso : 0 ≤ μ0 95 (38 + c) ∧ μ0 95 (38 + c) ≤ 60) (hca : 0 ≤ μ0 95 (56 + c) ∧ μ0 95 (56 + c) ≤ 999) (k : ∀ μ2, jtm μ0 μ2 (n + 1 + 1) (jm_u1 (jm_u1 f n 13) (n + 1) 10) → Q [.inl ((μ0 95 (38 + c)) - 100)] μ2) : cV X (d + 3) 212 [.inr (.inr 94), .inl c] μ Q := by
  refine jv_enter (d := d + 2) jm_p_X10_stamperSize [some (.inr (.inr 94)), some (.inl c)] rfl rfl rfl (Nat.le_of_ble_eq_true rfl) rfl rfl ?_
  refine jv_aload_n rfl rfl rfl (by decide) ?_
  refine jv_bipush rfl rfl ?_
  refine jv_callV1 rfl rfl rfl rfl ⟨by decide, rfl⟩ (Nat.le_of_ble_eq_true rfl) (mo_begin h (by omega)  (fun μ2 hμ2 => ?_))
  show jV _ _ jm_p_X10_stamperSize _ 3 [some (.inr (.inr 94)), some (.inl c)] [] μ2
  refine jv_aload_n rfl rfl rfl (by decide) ?_
  refine jv_iload_n rfl rfl rfl ?_
  refine jv_callV1 rfl rfl rfl rfl ⟨by decide, rfl⟩ (Nat.le_of_ble_eq_true rfl) (mo_lentSize hμ2 (by omega) hc hso hca (fun μ5 hμ5 => ?_))
  show jV _ _ jm_p_X10_stamperSize _ 6 [some (.inr (.inr 94)), some (.inl c)] [.inl (μ0 95 (38 + c))] μ5
  refine jv_bipush rfl rfl ?_
  refine jv_isub rfl rfl ⟨by omega, by omega⟩ ?_
  refine jv_ireturn rfl (Or.inl rfl) ?_
  exact k _ hμ5
set_option maxRecDepth 10000 in
theorem mo_wiSize1 {X : jm_X} {d : Nat} {Q : jv_P} {μ : jm_M} {c n : Int} {f : Int → Int} {μ0 : jm_M} (h : jtm μ0 μ n f) (hn : 0 ≤ n ∧ n + 4 ≤ 16) (hc : 0 ≤ c ∧ c ≤ 5) (hso : 0 ≤ μ0 95 (38 + c) ∧ μ0 95 (38 + c) ≤ 60) (hca : 0 ≤ μ0 95 (56 + c) ∧ μ0 95 (56 + c) ≤ 999) (hs : μ0 95 (32 + c) = 1) (k : ∀ μ2, jtm μ0 μ2 (n + 1 + 1 + 1 + 1) (jm_u1 (jm_u1 (jm_u1 (jm_u1 f n 11) (n + 1) 10) (n + 1 + 1) 21) (n + 1 + 1 + 1) 20) → Q [.inl ((μ0 95 (38 + c)) + (c + (μ0 95 (56 + c))))] μ2) : cV X (d + 5) 211 [.inr (.inr 94), .inl c] μ Q := by
  refine jv_enter (d := d + 4) jm_p_X10_wiperSize [some (.inr (.inr 94)), some (.inl c), none] rfl rfl rfl (Nat.le_of_ble_eq_true rfl) rfl rfl ?_
  refine jv_aload_n rfl rfl rfl (by decide) ?_
  refine jv_bipush rfl rfl ?_
  refine jv_callV1 rfl rfl rfl rfl ⟨by decide, rfl⟩ (Nat.le_of_ble_eq_true rfl) (mo_begin h (by omega)  (fun μ2 hμ2 => ?_))
  show jV _ _ jm_p_X10_wiperSize _ 3 [some (.inr (.inr 94)), some (.inl c), none] [] μ2
  refine jv_aload_n rfl rfl rfl (by decide) ?_
  refine jv_iload_n rfl rfl rfl ?_
  refine jv_callV1 rfl rfl rfl rfl ⟨by decide, rfl⟩ (Nat.le_of_ble_eq_true rfl) (mo_lentSize hμ2 (by omega) hc hso hca (fun μ5 hμ5 => ?_))
  show jV _ _ jm_p_X10_wiperSize _ 6 [some (.inr (.inr 94)), some (.inl c), none] [.inl (μ0 95 (38 + c))] μ5
  refine jv_istore_n (fun x => [some (.inr (.inr 94)), some (.inl c), some (.inl x)]) rfl rfl (fun _ => rfl) (fun x2_6 ex2_6 => ?_)
  refine jv_iload_n rfl rfl rfl ?_
  refine jv_aload_n rfl rfl rfl (by decide) ?_
  refine jv_iload_n rfl rfl rfl ?_
  refine jv_callV1 rfl rfl rfl rfl ⟨by decide, rfl⟩ (Nat.le_of_ble_eq_true rfl) (mo_mark1 hμ5 (by omega) hc hso hca hs (fun μ10 hμ10 => ?_))
  show jV _ _ jm_p_X10_wiperSize _ 11 [some (.inr (.inr 94)), some (.inl c), some (.inl x2_6)] [.inl (c + (μ0 95 (56 + c))), .inl x2_6] μ10
  refine jv_iadd rfl rfl ⟨by omega, by omega⟩ ?_
  refine jv_ireturn rfl (Or.inl rfl) ?_
  rw [ex2_6]
  exact k _ hμ10
set_option maxRecDepth 10000 in
theorem mo_wiSize2 {X : jm_X} {d : Nat} {Q : jv_P} {μ : jm_M} {c n : Int} {f : Int → Int} {μ0 : jm_M} (h : jtm μ0 μ n f) (hn : 0 ≤ n ∧ n + 5 ≤ 16) (hc : 0 ≤ c ∧ c ≤ 5) (hso : 0 ≤ μ0 95 (38 + c) ∧ μ0 95 (38 + c) ≤ 60) (hca : 0 ≤ μ0 95 (56 + c) ∧ μ0 95 (56 + c) ≤ 999) (hs : μ0 95 (32 + c) = 2) (k : ∀ μ2, jtm μ0 μ2 (n + 1 + 1 + 1 + 1 + 1) (jm_u1 (jm_u1 (jm_u1 (jm_u1 (jm_u1 f n 11) (n + 1) 10) (n + 1 + 1) 24) (n + 1 + 1 + 1) 21) (n + 1 + 1 + 1 + 1) 20) → Q [.inl ((μ0 95 (38 + c)) + (2 * (c + (μ0 95 (56 + c)))))] μ2) : cV X (d + 5) 211 [.inr (.inr 94), .inl c] μ Q := by
  refine jv_enter (d := d + 4) jm_p_X10_wiperSize [some (.inr (.inr 94)), some (.inl c), none] rfl rfl rfl (Nat.le_of_ble_eq_true rfl) rfl rfl ?_
  refine jv_aload_n rfl rfl rfl (by decide) ?_
  refine jv_bipush rfl rfl ?_
  refine jv_callV1 rfl rfl rfl rfl ⟨by decide, rfl⟩ (Nat.le_of_ble_eq_true rfl) (mo_begin h (by omega)  (fun μ2 hμ2 => ?_))
  show jV _ _ jm_p_X10_wiperSize _ 3 [some (.inr (.inr 94)), some (.inl c), none] [] μ2
  refine jv_aload_n rfl rfl rfl (by decide) ?_
  refine jv_iload_n rfl rfl rfl ?_
  refine jv_callV1 rfl rfl rfl rfl ⟨by decide, rfl⟩ (Nat.le_of_ble_eq_true rfl) (mo_lentSize hμ2 (by omega) hc hso hca (fun μ5 hμ5 => ?_))
  show jV _ _ jm_p_X10_wiperSize _ 6 [some (.inr (.inr 94)), some (.inl c), none] [.inl (μ0 95 (38 + c))] μ5
  refine jv_istore_n (fun x => [some (.inr (.inr 94)), some (.inl c), some (.inl x)]) rfl rfl (fun _ => rfl) (fun x2_6 ex2_6 => ?_)
  refine jv_iload_n rfl rfl rfl ?_
  refine jv_aload_n rfl rfl rfl (by decide) ?_
  refine jv_iload_n rfl rfl rfl ?_
  refine jv_callV1 rfl rfl rfl rfl ⟨by decide, rfl⟩ (Nat.le_of_ble_eq_true rfl) (mo_mark2 hμ5 (by omega) hc hso hca hs (fun μ10 hμ10 => ?_))
  show jV _ _ jm_p_X10_wiperSize _ 11 [some (.inr (.inr 94)), some (.inl c), some (.inl x2_6)] [.inl (2 * (c + (μ0 95 (56 + c)))), .inl x2_6] μ10
  refine jv_iadd rfl rfl ⟨by omega, by omega⟩ ?_
  refine jv_ireturn rfl (Or.inl rfl) ?_
  rw [ex2_6]
  exact k _ hμ10
set_option maxRecDepth 10000 in
theorem mo_wiSize3 {X : jm_X} {d : Nat} {Q : jv_P} {μ : jm_M} {c n : Int} {f : Int → Int} {μ0 : jm_M} (h : jtm μ0 μ n f) (hn : 0 ≤ n ∧ n + 5 ≤ 16) (hc : 0 ≤ c ∧ c ≤ 5) (hso : 0 ≤ μ0 95 (38 + c) ∧ μ0 95 (38 + c) ≤ 60) (hca : 0 ≤ μ0 95 (56 + c) ∧ μ0 95 (56 + c) ≤ 999) (hs : μ0 95 (32 + c) = 3) (k : ∀ μ2, jtm μ0 μ2 (n + 1 + 1 + 1 + 1 + 1) (jm_u1 (jm_u1 (jm_u1 (jm_u1 (jm_u1 f n 11) (n + 1) 10) (n + 1 + 1) 22) (n + 1 + 1 + 1) 21) (n + 1 + 1 + 1 + 1) 20) → Q [.inl ((μ0 95 (38 + c)) + ((c + (μ0 95 (56 + c))) - 1000))] μ2) : cV X (d + 5) 211 [.inr (.inr 94), .inl c] μ Q := by
  refine jv_enter (d := d + 4) jm_p_X10_wiperSize [some (.inr (.inr 94)), some (.inl c), none] rfl rfl rfl (Nat.le_of_ble_eq_true rfl) rfl rfl ?_
  refine jv_aload_n rfl rfl rfl (by decide) ?_
  refine jv_bipush rfl rfl ?_
  refine jv_callV1 rfl rfl rfl rfl ⟨by decide, rfl⟩ (Nat.le_of_ble_eq_true rfl) (mo_begin h (by omega)  (fun μ2 hμ2 => ?_))
  show jV _ _ jm_p_X10_wiperSize _ 3 [some (.inr (.inr 94)), some (.inl c), none] [] μ2
  refine jv_aload_n rfl rfl rfl (by decide) ?_
  refine jv_iload_n rfl rfl rfl ?_
  refine jv_callV1 rfl rfl rfl rfl ⟨by decide, rfl⟩ (Nat.le_of_ble_eq_true rfl) (mo_lentSize hμ2 (by omega) hc hso hca (fun μ5 hμ5 => ?_))
  show jV _ _ jm_p_X10_wiperSize _ 6 [some (.inr (.inr 94)), some (.inl c), none] [.inl (μ0 95 (38 + c))] μ5
  refine jv_istore_n (fun x => [some (.inr (.inr 94)), some (.inl c), some (.inl x)]) rfl rfl (fun _ => rfl) (fun x2_6 ex2_6 => ?_)
  refine jv_iload_n rfl rfl rfl ?_
  refine jv_aload_n rfl rfl rfl (by decide) ?_
  refine jv_iload_n rfl rfl rfl ?_
  refine jv_callV1 rfl rfl rfl rfl ⟨by decide, rfl⟩ (Nat.le_of_ble_eq_true rfl) (mo_mark3 hμ5 (by omega) hc hso hca hs (fun μ10 hμ10 => ?_))
  show jV _ _ jm_p_X10_wiperSize _ 11 [some (.inr (.inr 94)), some (.inl c), some (.inl x2_6)] [.inl ((c + (μ0 95 (56 + c))) - 1000), .inl x2_6] μ10
  refine jv_iadd rfl rfl ⟨by omega, by omega⟩ ?_
  refine jv_ireturn rfl (Or.inl rfl) ?_
  rw [ex2_6]
  exact k _ hμ10
set_option maxRecDepth 10000 in
theorem mo_size1 {X : jm_X} {d : Nat} {Q : jv_P} {μ : jm_M} {c n : Int} {f : Int → Int} {μ0 : jm_M} (h : jtm μ0 μ n f) (hn : 0 ≤ n ∧ n + 4 ≤ 16) (hc : 0 ≤ c ∧ c ≤ 5) (hso : 0 ≤ μ0 95 (38 + c) ∧ μ0 95 (38 + c) ≤ 60) (hca : 0 ≤ μ0 95 (56 + c) ∧ μ0 95 (56 + c) ≤ 999) (hs : μ0 95 (32 + c) = 1) (k : ∀ μ2, jtm μ0 μ2 (n + 1 + 1 + 1 + 1) (jm_u1 (jm_u1 (jm_u1 (jm_u1 f n 11) (n + 1) 10) (n + 1 + 1) 21) (n + 1 + 1 + 1) 20) → Q [.inl ((μ0 95 (38 + c)) + (c + (μ0 95 (56 + c))))] μ2) : cV X (d + 6) 213 [.inr (.inr 94), .inl c] μ Q := by
  refine jv_enter (d := d + 5) jm_p_X10_sizeOf [some (.inr (.inr 94)), some (.inl c)] rfl rfl rfl (Nat.le_of_ble_eq_true rfl) rfl rfl ?_
  refine jv_aload_n rfl rfl rfl (by decide) ?_
  refine jv_getr (w := 95) rfl rfl rfl ⟨by decide, rfl⟩ rfl rfl ?_
  refine jv_bipush rfl rfl ?_
  refine jv_iload_n rfl rfl rfl ?_
  refine jv_iadd rfl rfl ⟨by omega, by omega⟩ ?_
  refine jv_iaload rfl rfl (by decide) rfl ⟨by omega, by omega⟩ ?_
  rw [h.1 95 (by decide) (by decide)]
  rw [hs]
  refine jv_tsw rfl (And.intro (fun q => absurd q (by decide)) (fun _ => And.intro (fun q => absurd q (by decide)) (fun _ => And.intro (fun q => absurd q (by decide)) (fun _ => And.intro (fun q => absurd q (by decide)) (fun _ => jm_sw_1 ?_)))))
  show jV _ _ jm_p_X10_sizeOf _ 28 [some (.inr (.inr 94)), some (.inl c)] [] μ
  refine jv_aload_n rfl rfl rfl (by decide) ?_
  refine jv_iload_n rfl rfl rfl ?_
  refine jv_callV1 rfl rfl rfl rfl ⟨by decide, rfl⟩ (Nat.le_of_ble_eq_true rfl) (mo_wiSize1 h (by omega) hc hso hca hs (fun μ30 hμ30 => ?_))
  show jV _ _ jm_p_X10_sizeOf _ 31 [some (.inr (.inr 94)), some (.inl c)] [.inl ((μ0 95 (38 + c)) + (c + (μ0 95 (56 + c))))] μ30
  refine jv_ireturn rfl (Or.inl rfl) ?_
  exact k _ hμ30
set_option maxRecDepth 10000 in
theorem mo_size3 {X : jm_X} {d : Nat} {Q : jv_P} {μ : jm_M} {c n : Int} {f : Int → Int} {μ0 : jm_M} (h : jtm μ0 μ n f) (hn : 0 ≤ n ∧ n + 5 ≤ 16) (hc : 0 ≤ c ∧ c ≤ 5) (hso : 0 ≤ μ0 95 (38 + c) ∧ μ0 95 (38 + c) ≤ 60) (hca : 0 ≤ μ0 95 (56 + c) ∧ μ0 95 (56 + c) ≤ 999) (hs : μ0 95 (32 + c) = 3) (k : ∀ μ2, jtm μ0 μ2 (n + 1 + 1 + 1 + 1 + 1) (jm_u1 (jm_u1 (jm_u1 (jm_u1 (jm_u1 f n 11) (n + 1) 10) (n + 1 + 1) 22) (n + 1 + 1 + 1) 21) (n + 1 + 1 + 1 + 1) 20) → Q [.inl ((μ0 95 (38 + c)) + ((c + (μ0 95 (56 + c))) - 1000))] μ2) : cV X (d + 6) 213 [.inr (.inr 94), .inl c] μ Q := by
  refine jv_enter (d := d + 5) jm_p_X10_sizeOf [some (.inr (.inr 94)), some (.inl c)] rfl rfl rfl (Nat.le_of_ble_eq_true rfl) rfl rfl ?_
  refine jv_aload_n rfl rfl rfl (by decide) ?_
  refine jv_getr (w := 95) rfl rfl rfl ⟨by decide, rfl⟩ rfl rfl ?_
  refine jv_bipush rfl rfl ?_
  refine jv_iload_n rfl rfl rfl ?_
  refine jv_iadd rfl rfl ⟨by omega, by omega⟩ ?_
  refine jv_iaload rfl rfl (by decide) rfl ⟨by omega, by omega⟩ ?_
  rw [h.1 95 (by decide) (by decide)]
  rw [hs]
  refine jv_tsw rfl (And.intro (fun q => absurd q (by decide)) (fun _ => And.intro (fun _ => ?_) (fun q => absurd rfl q)))
  show jV _ _ jm_p_X10_sizeOf _ 28 [some (.inr (.inr 94)), some (.inl c)] [] μ
  refine jv_aload_n rfl rfl rfl (by decide) ?_
  refine jv_iload_n rfl rfl rfl ?_
  refine jv_callV1 rfl rfl rfl rfl ⟨by decide, rfl⟩ (Nat.le_of_ble_eq_true rfl) (mo_wiSize3 h (by omega) hc hso hca hs (fun μ30 hμ30 => ?_))
  show jV _ _ jm_p_X10_sizeOf _ 31 [some (.inr (.inr 94)), some (.inl c)] [.inl ((μ0 95 (38 + c)) + ((c + (μ0 95 (56 + c))) - 1000))] μ30
  refine jv_ireturn rfl (Or.inl rfl) ?_
  exact k _ hμ30
set_option maxRecDepth 10000 in
theorem mo_size2 {X : jm_X} {d : Nat} {Q : jv_P} {μ : jm_M} {c n : Int} {f : Int → Int} {μ0 : jm_M} (h : jtm μ0 μ n f) (hn : 0 ≤ n ∧ n + 6 ≤ 16) (hc : 0 ≤ c ∧ c ≤ 5) (hso : 0 ≤ μ0 95 (38 + c) ∧ μ0 95 (38 + c) ≤ 60) (hca : 0 ≤ μ0 95 (56 + c) ∧ μ0 95 (56 + c) ≤ 999) (hs : μ0 95 (32 + c) = 2) (k : ∀ μ2, jtm μ0 μ2 (n + 1 + 1 + 1 + 1 + 1 + 1) (jm_u1 (jm_u1 (jm_u1 (jm_u1 (jm_u1 (jm_u1 f n 12) (n + 1) 11) (n + 1 + 1) 10) (n + 1 + 1 + 1) 24) (n + 1 + 1 + 1 + 1) 21) (n + 1 + 1 + 1 + 1 + 1) 20) → Q [.inl (-((μ0 95 (38 + c)) + (2 * (c + (μ0 95 (56 + c))))))] μ2) : cV X (d + 6) 213 [.inr (.inr 94), .inl c] μ Q := by
  refine jv_enter (d := d + 5) jm_p_X10_sizeOf [some (.inr (.inr 94)), some (.inl c)] rfl rfl rfl (Nat.le_of_ble_eq_true rfl) rfl rfl ?_
  refine jv_aload_n rfl rfl rfl (by decide) ?_
  refine jv_getr (w := 95) rfl rfl rfl ⟨by decide, rfl⟩ rfl rfl ?_
  refine jv_bipush rfl rfl ?_
  refine jv_iload_n rfl rfl rfl ?_
  refine jv_iadd rfl rfl ⟨by omega, by omega⟩ ?_
  refine jv_iaload rfl rfl (by decide) rfl ⟨by omega, by omega⟩ ?_
  rw [h.1 95 (by decide) (by decide)]
  rw [hs]
  refine jv_tsw rfl (And.intro (fun _ => ?_) (fun q => absurd rfl q))
  show jV _ _ jm_p_X10_sizeOf _ 7 [some (.inr (.inr 94)), some (.inl c)] [] μ
  refine jv_aload_n rfl rfl rfl (by decide) ?_
  refine jv_bipush rfl rfl ?_
  refine jv_callV1 rfl rfl rfl rfl ⟨by decide, rfl⟩ (Nat.le_of_ble_eq_true rfl) (mo_begin h (by omega)  (fun μ9 hμ9 => ?_))
  show jV _ _ jm_p_X10_sizeOf _ 10 [some (.inr (.inr 94)), some (.inl c)] [] μ9
  refine jv_aload_n rfl rfl rfl (by decide) ?_
  refine jv_iload_n rfl rfl rfl ?_
  refine jv_callV1 rfl rfl rfl rfl ⟨by decide, rfl⟩ (Nat.le_of_ble_eq_true rfl) (mo_wiSize2 hμ9 (by omega) hc hso hca hs (fun μ12 hμ12 => ?_))
  show jV _ _ jm_p_X10_sizeOf _ 13 [some (.inr (.inr 94)), some (.inl c)] [.inl ((μ0 95 (38 + c)) + (2 * (c + (μ0 95 (56 + c)))))] μ12
  refine jv_ineg rfl rfl ⟨by omega, by omega⟩ ?_
  refine jv_ireturn rfl (Or.inl rfl) ?_
  exact k _ hμ12
set_option maxRecDepth 10000 in
theorem mo_size4 {X : jm_X} {d : Nat} {Q : jv_P} {μ : jm_M} {c n : Int} {f : Int → Int} {μ0 : jm_M} (h : jtm μ0 μ n f) (hn : 0 ≤ n ∧ n + 2 ≤ 16) (hc : 0 ≤ c ∧ c ≤ 5) (hso : 0 ≤ μ0 95 (38 + c) ∧ μ0 95 (38 + c) ≤ 60) (hca : 0 ≤ μ0 95 (56 + c) ∧ μ0 95 (56 + c) ≤ 999) (hs : μ0 95 (32 + c) = 4) (k : ∀ μ2, jtm μ0 μ2 (n + 1 + 1) (jm_u1 (jm_u1 f n 13) (n + 1) 10) → Q [.inl ((μ0 95 (38 + c)) - 100)] μ2) : cV X (d + 6) 213 [.inr (.inr 94), .inl c] μ Q := by
  refine jv_enter (d := d + 5) jm_p_X10_sizeOf [some (.inr (.inr 94)), some (.inl c)] rfl rfl rfl (Nat.le_of_ble_eq_true rfl) rfl rfl ?_
  refine jv_aload_n rfl rfl rfl (by decide) ?_
  refine jv_getr (w := 95) rfl rfl rfl ⟨by decide, rfl⟩ rfl rfl ?_
  refine jv_bipush rfl rfl ?_
  refine jv_iload_n rfl rfl rfl ?_
  refine jv_iadd rfl rfl ⟨by omega, by omega⟩ ?_
  refine jv_iaload rfl rfl (by decide) rfl ⟨by omega, by omega⟩ ?_
  rw [h.1 95 (by decide) (by decide)]
  rw [hs]
  refine jv_tsw rfl (And.intro (fun q => absurd q (by decide)) (fun _ => And.intro (fun q => absurd q (by decide)) (fun _ => And.intro (fun _ => ?_) (fun q => absurd rfl q))))
  show jV _ _ jm_p_X10_sizeOf _ 15 [some (.inr (.inr 94)), some (.inl c)] [] μ
  refine jv_aload_n rfl rfl rfl (by decide) ?_
  refine jv_iload_n rfl rfl rfl ?_
  refine jv_callV1 rfl rfl rfl rfl ⟨by decide, rfl⟩ (Nat.le_of_ble_eq_true rfl) (mo_stSize h (by omega) hc hso hca (fun μ17 hμ17 => ?_))
  show jV _ _ jm_p_X10_sizeOf _ 18 [some (.inr (.inr 94)), some (.inl c)] [.inl ((μ0 95 (38 + c)) - 100)] μ17
  refine jv_ireturn rfl (Or.inl rfl) ?_
  exact k _ hμ17
set_option maxRecDepth 10000 in
theorem mo_size5 {X : jm_X} {d : Nat} {Q : jv_P} {μ : jm_M} {c n : Int} {f : Int → Int} {μ0 : jm_M} (h : jtm μ0 μ n f) (hn : 0 ≤ n ∧ n + 3 ≤ 16) (hc : 0 ≤ c ∧ c ≤ 5) (hso : 0 ≤ μ0 95 (38 + c) ∧ μ0 95 (38 + c) ≤ 60) (hca : 0 ≤ μ0 95 (56 + c) ∧ μ0 95 (56 + c) ≤ 999) (hs : μ0 95 (32 + c) = 5) (k : ∀ μ2, jtm μ0 μ2 (n + 1 + 1 + 1) (jm_u1 (jm_u1 (jm_u1 f n 14) (n + 1) 13) (n + 1 + 1) 10) → Q [.inl (2 * ((μ0 95 (38 + c)) - 100))] μ2) : cV X (d + 6) 213 [.inr (.inr 94), .inl c] μ Q := by
  refine jv_enter (d := d + 5) jm_p_X10_sizeOf [some (.inr (.inr 94)), some (.inl c)] rfl rfl rfl (Nat.le_of_ble_eq_true rfl) rfl rfl ?_
  refine jv_aload_n rfl rfl rfl (by decide) ?_
  refine jv_getr (w := 95) rfl rfl rfl ⟨by decide, rfl⟩ rfl rfl ?_
  refine jv_bipush rfl rfl ?_
  refine jv_iload_n rfl rfl rfl ?_
  refine jv_iadd rfl rfl ⟨by omega, by omega⟩ ?_
  refine jv_iaload rfl rfl (by decide) rfl ⟨by omega, by omega⟩ ?_
  rw [h.1 95 (by decide) (by decide)]
  rw [hs]
  refine jv_tsw rfl (And.intro (fun q => absurd q (by decide)) (fun _ => And.intro (fun q => absurd q (by decide)) (fun _ => And.intro (fun q => absurd q (by decide)) (fun _ => And.intro (fun _ => ?_) (fun q => absurd rfl q)))))
  show jV _ _ jm_p_X10_sizeOf _ 19 [some (.inr (.inr 94)), some (.inl c)] [] μ
  refine jv_aload_n rfl rfl rfl (by decide) ?_
  refine jv_bipush rfl rfl ?_
  refine jv_callV1 rfl rfl rfl rfl ⟨by decide, rfl⟩ (Nat.le_of_ble_eq_true rfl) (mo_begin h (by omega)  (fun μ21 hμ21 => ?_))
  show jV _ _ jm_p_X10_sizeOf _ 22 [some (.inr (.inr 94)), some (.inl c)] [] μ21
  refine jv_iconst rfl rfl ?_
  refine jv_aload_n rfl rfl rfl (by decide) ?_
  refine jv_iload_n rfl rfl rfl ?_
  refine jv_callV1 rfl rfl rfl rfl ⟨by decide, rfl⟩ (Nat.le_of_ble_eq_true rfl) (mo_stSize hμ21 (by omega) hc hso hca (fun μ25 hμ25 => ?_))
  show jV _ _ jm_p_X10_sizeOf _ 26 [some (.inr (.inr 94)), some (.inl c)] [.inl ((μ0 95 (38 + c)) - 100), .inl 2] μ25
  refine jv_imul rfl rfl ⟨by omega, by omega⟩ ?_
  refine jv_ireturn rfl (Or.inl rfl) ?_
  exact k _ hμ25
set_option maxRecDepth 10000 in
theorem mo_stMark4 {X : jm_X} {d : Nat} {Q : jv_P} {μ : jm_M} {c n : Int} {f : Int → Int} {μ0 : jm_M} (h : jtm μ0 μ n f) (hn : 0 ≤ n ∧ n + 4 ≤ 16) (hc : 0 ≤ c ∧ c ≤ 5) (hso : 0 ≤ μ0 95 (38 + c) ∧ μ0 95 (38 + c) ≤ 60) (hca : 0 ≤ μ0 95 (56 + c) ∧ μ0 95 (56 + c) ≤ 999) (hs : μ0 95 (32 + c) = 4) (k : ∀ μ2, jtm μ0 μ2 (n + 1 + 1 + 1 + 1) (jm_u1 (jm_u1 (jm_u1 (jm_u1 f n 23) (n + 1) 20) (n + 1 + 1) 13) (n + 1 + 1 + 1) 10) → Q [.inl (c - ((μ0 95 (38 + c)) - 100))] μ2) : cV X (d + 7) 217 [.inr (.inr 94), .inl c] μ Q := by
  refine jv_enter (d := d + 6) jm_p_X10_stamperMark [some (.inr (.inr 94)), some (.inl c), none] rfl rfl rfl (Nat.le_of_ble_eq_true rfl) rfl rfl ?_
  refine jv_aload_n rfl rfl rfl (by decide) ?_
  refine jv_bipush rfl rfl ?_
  refine jv_callV1 rfl rfl rfl rfl ⟨by decide, rfl⟩ (Nat.le_of_ble_eq_true rfl) (mo_begin h (by omega)  (fun μ2 hμ2 => ?_))
  show jV _ _ jm_p_X10_stamperMark _ 3 [some (.inr (.inr 94)), some (.inl c), none] [] μ2
  refine jv_aload_n rfl rfl rfl (by decide) ?_
  refine jv_iload_n rfl rfl rfl ?_
  refine jv_callV1 rfl rfl rfl rfl ⟨by decide, rfl⟩ (Nat.le_of_ble_eq_true rfl) (mo_lentMark hμ2 (by omega) hc hso hca (fun μ5 hμ5 => ?_))
  show jV _ _ jm_p_X10_stamperMark _ 6 [some (.inr (.inr 94)), some (.inl c), none] [.inl c] μ5
  refine jv_istore_n (fun x => [some (.inr (.inr 94)), some (.inl c), some (.inl x)]) rfl rfl (fun _ => rfl) (fun x2_6 ex2_6 => ?_)
  refine jv_iload_n rfl rfl rfl ?_
  refine jv_aload_n rfl rfl rfl (by decide) ?_
  refine jv_iload_n rfl rfl rfl ?_
  refine jv_callV1 rfl rfl rfl rfl ⟨by decide, rfl⟩ (Nat.le_of_ble_eq_true rfl) (mo_size4 hμ5 (by omega) hc hso hca hs (fun μ10 hμ10 => ?_))
  show jV _ _ jm_p_X10_stamperMark _ 11 [some (.inr (.inr 94)), some (.inl c), some (.inl x2_6)] [.inl ((μ0 95 (38 + c)) - 100), .inl x2_6] μ10
  refine jv_isub rfl rfl ⟨by omega, by omega⟩ ?_
  refine jv_ireturn rfl (Or.inl rfl) ?_
  rw [ex2_6]
  exact k _ hμ10
set_option maxRecDepth 10000 in
theorem mo_stMark5 {X : jm_X} {d : Nat} {Q : jv_P} {μ : jm_M} {c n : Int} {f : Int → Int} {μ0 : jm_M} (h : jtm μ0 μ n f) (hn : 0 ≤ n ∧ n + 5 ≤ 16) (hc : 0 ≤ c ∧ c ≤ 5) (hso : 0 ≤ μ0 95 (38 + c) ∧ μ0 95 (38 + c) ≤ 60) (hca : 0 ≤ μ0 95 (56 + c) ∧ μ0 95 (56 + c) ≤ 999) (hs : μ0 95 (32 + c) = 5) (k : ∀ μ2, jtm μ0 μ2 (n + 1 + 1 + 1 + 1 + 1) (jm_u1 (jm_u1 (jm_u1 (jm_u1 (jm_u1 f n 23) (n + 1) 20) (n + 1 + 1) 14) (n + 1 + 1 + 1) 13) (n + 1 + 1 + 1 + 1) 10) → Q [.inl (c - (2 * ((μ0 95 (38 + c)) - 100)))] μ2) : cV X (d + 7) 217 [.inr (.inr 94), .inl c] μ Q := by
  refine jv_enter (d := d + 6) jm_p_X10_stamperMark [some (.inr (.inr 94)), some (.inl c), none] rfl rfl rfl (Nat.le_of_ble_eq_true rfl) rfl rfl ?_
  refine jv_aload_n rfl rfl rfl (by decide) ?_
  refine jv_bipush rfl rfl ?_
  refine jv_callV1 rfl rfl rfl rfl ⟨by decide, rfl⟩ (Nat.le_of_ble_eq_true rfl) (mo_begin h (by omega)  (fun μ2 hμ2 => ?_))
  show jV _ _ jm_p_X10_stamperMark _ 3 [some (.inr (.inr 94)), some (.inl c), none] [] μ2
  refine jv_aload_n rfl rfl rfl (by decide) ?_
  refine jv_iload_n rfl rfl rfl ?_
  refine jv_callV1 rfl rfl rfl rfl ⟨by decide, rfl⟩ (Nat.le_of_ble_eq_true rfl) (mo_lentMark hμ2 (by omega) hc hso hca (fun μ5 hμ5 => ?_))
  show jV _ _ jm_p_X10_stamperMark _ 6 [some (.inr (.inr 94)), some (.inl c), none] [.inl c] μ5
  refine jv_istore_n (fun x => [some (.inr (.inr 94)), some (.inl c), some (.inl x)]) rfl rfl (fun _ => rfl) (fun x2_6 ex2_6 => ?_)
  refine jv_iload_n rfl rfl rfl ?_
  refine jv_aload_n rfl rfl rfl (by decide) ?_
  refine jv_iload_n rfl rfl rfl ?_
  refine jv_callV1 rfl rfl rfl rfl ⟨by decide, rfl⟩ (Nat.le_of_ble_eq_true rfl) (mo_size5 hμ5 (by omega) hc hso hca hs (fun μ10 hμ10 => ?_))
  show jV _ _ jm_p_X10_stamperMark _ 11 [some (.inr (.inr 94)), some (.inl c), some (.inl x2_6)] [.inl (2 * ((μ0 95 (38 + c)) - 100)), .inl x2_6] μ10
  refine jv_isub rfl rfl ⟨by omega, by omega⟩ ?_
  refine jv_ireturn rfl (Or.inl rfl) ?_
  rw [ex2_6]
  exact k _ hμ10
theorem jI_traceC {μ μ' : jm_M} (h : jI μ) (hr : ji_trace μ') (e : ∀ z, z ≠ 58 → z ≠ 59 → z ≠ 94 → z ≠ 101 → μ' z = μ z) (e94 : ∀ j, j ≠ 12 → μ' 94 j = μ 94 j) : jI μ' := by
  have E : ∀ z : Int, (z ≠ 58 ∧ z ≠ 59 ∧ z ≠ 94 ∧ z ≠ 101) → μ' z = μ z := fun z q => e z q.1 q.2.1 q.2.2.1 q.2.2.2
  obtain ⟨a, b, c, d, f, g, ⟨i0, i1⟩, j⟩ := h
  exact ⟨jg_rows (E _ (by decide)) (E _ (by decide)) (E _ (by decide)) (E _ (by decide)) (E _ (by decide)) (E _ (by decide)) a, jg_tape (by rw [E 5 (by decide)]) (E _ (by decide)) (E _ (by decide)) (e94 8 (by decide)) b, hr, ⟨by rw [E 0 (by decide), e94 10 (by decide)]; exact d.1, by rw [E 0 (by decide), e94 9 (by decide)]; exact d.2⟩, jg_town (fun z z0 z1 => E z (by omega)) (E _ (by decide)) (e94 1 (by decide)) f,
    jg_idle (E _ (by decide)) (E _ (by decide)) (E _ (by decide)) (E _ (by decide)) (E _ (by decide)) (E _ (by decide)) (E _ (by decide)) g,
    ⟨jg_img (e94 1 (by decide)) (Or.inl rfl) g (by rw [E 42 (by decide)]) (by rw [E 96 (by decide)]) (fun z z0 z1 => E z (by omega)) (fun k k0 k1 => by rw [E 95 (by decide)]) i0, jg_img (e94 1 (by decide)) (Or.inr rfl) g (by rw [E 42 (by decide)]) (by rw [E 96 (by decide)]) (fun z z0 z1 => E z (by omega)) (fun k k0 k1 => by rw [E 95 (by decide)]) i1⟩,
    jg_past (e94 2 (by decide)) (E _ (by decide)) (E _ (by decide)) (E _ (by decide)) j⟩
set_option maxRecDepth 10000 in
theorem mo_askT {X : jm_X} {d : Nat} {Q : jv_P} {μ μ0 : jm_M} {c so y : Int} (h : jtm μ0 μ 0 (fun _ => 0)) (hc : 0 ≤ c ∧ c ≤ 5) (hso : 0 ≤ μ0 95 (38 + c) ∧ μ0 95 (38 + c) ≤ 60) (hca : 0 ≤ μ0 95 (56 + c) ∧ μ0 95 (56 + c) ≤ 999) (hs : μ0 95 (32 + c) = so) (hso1 : 1 ≤ so ∧ so ≤ 5) (hy : y = 0 ∨ y = 1) (k : ∀ μ2, jtm μ0 μ2 (jansN so y) (jansF so y) → Q [.inl (jansV so y c (μ0 95 (38 + c)) (μ0 95 (56 + c)))] μ2) : jV X (d + 8) jm_p_X10_ask Q 15 [some (.inr (.inr 94)), some (.inl c), some (.inl y)] [] μ := by
  rcases hy with rfl | rfl
  · rcases (show so = 1 ∨ so = 2 ∨ so = 3 ∨ so = 4 ∨ so = 5 by omega) with rfl | rfl | rfl | rfl | rfl
    · refine jv_iload_n rfl rfl rfl ?_
      refine jv_if_neF rfl rfl (by decide) ?_
      refine jv_aload_n rfl rfl rfl (by decide) ?_
      refine jv_iload_n rfl rfl rfl ?_
      refine jv_callV1 rfl rfl rfl rfl ⟨by decide, rfl⟩ (Nat.le_of_ble_eq_true rfl) (mo_size1 h (by omega) hc hso hca hs (fun μ19 hμ19 => ?_))
      show jV _ _ jm_p_X10_ask _ 20 [some (.inr (.inr 94)), some (.inl c), some (.inl 0)] [.inl ((μ0 95 (38 + c)) + (c + (μ0 95 (56 + c))))] μ19
      refine jv_goto rfl rfl ?_
      refine jv_ireturn rfl (Or.inl rfl) ?_
      exact k _ hμ19
    · refine jv_iload_n rfl rfl rfl ?_
      refine jv_if_neF rfl rfl (by decide) ?_
      refine jv_aload_n rfl rfl rfl (by decide) ?_
      refine jv_iload_n rfl rfl rfl ?_
      refine jv_callV1 rfl rfl rfl rfl ⟨by decide, rfl⟩ (Nat.le_of_ble_eq_true rfl) (mo_size2 h (by omega) hc hso hca hs (fun μ19 hμ19 => ?_))
      show jV _ _ jm_p_X10_ask _ 20 [some (.inr (.inr 94)), some (.inl c), some (.inl 0)] [.inl (-((μ0 95 (38 + c)) + (2 * (c + (μ0 95 (56 + c))))))] μ19
      refine jv_goto rfl rfl ?_
      refine jv_ireturn rfl (Or.inl rfl) ?_
      exact k _ hμ19
    · refine jv_iload_n rfl rfl rfl ?_
      refine jv_if_neF rfl rfl (by decide) ?_
      refine jv_aload_n rfl rfl rfl (by decide) ?_
      refine jv_iload_n rfl rfl rfl ?_
      refine jv_callV1 rfl rfl rfl rfl ⟨by decide, rfl⟩ (Nat.le_of_ble_eq_true rfl) (mo_size3 h (by omega) hc hso hca hs (fun μ19 hμ19 => ?_))
      show jV _ _ jm_p_X10_ask _ 20 [some (.inr (.inr 94)), some (.inl c), some (.inl 0)] [.inl ((μ0 95 (38 + c)) + ((c + (μ0 95 (56 + c))) - 1000))] μ19
      refine jv_goto rfl rfl ?_
      refine jv_ireturn rfl (Or.inl rfl) ?_
      exact k _ hμ19
    · refine jv_iload_n rfl rfl rfl ?_
      refine jv_if_neF rfl rfl (by decide) ?_
      refine jv_aload_n rfl rfl rfl (by decide) ?_
      refine jv_iload_n rfl rfl rfl ?_
      refine jv_callV1 rfl rfl rfl rfl ⟨by decide, rfl⟩ (Nat.le_of_ble_eq_true rfl) (mo_size4 h (by omega) hc hso hca hs (fun μ19 hμ19 => ?_))
      show jV _ _ jm_p_X10_ask _ 20 [some (.inr (.inr 94)), some (.inl c), some (.inl 0)] [.inl ((μ0 95 (38 + c)) - 100)] μ19
      refine jv_goto rfl rfl ?_
      refine jv_ireturn rfl (Or.inl rfl) ?_
      exact k _ hμ19
    · refine jv_iload_n rfl rfl rfl ?_
      refine jv_if_neF rfl rfl (by decide) ?_
      refine jv_aload_n rfl rfl rfl (by decide) ?_
      refine jv_iload_n rfl rfl rfl ?_
      refine jv_callV1 rfl rfl rfl rfl ⟨by decide, rfl⟩ (Nat.le_of_ble_eq_true rfl) (mo_size5 h (by omega) hc hso hca hs (fun μ19 hμ19 => ?_))
      show jV _ _ jm_p_X10_ask _ 20 [some (.inr (.inr 94)), some (.inl c), some (.inl 0)] [.inl (2 * ((μ0 95 (38 + c)) - 100))] μ19
      refine jv_goto rfl rfl ?_
      refine jv_ireturn rfl (Or.inl rfl) ?_
      exact k _ hμ19
  · rcases (show so = 1 ∨ so = 2 ∨ so = 3 ∨ so = 4 ∨ so = 5 by omega) with rfl | rfl | rfl | rfl | rfl
    · refine jv_iload_n rfl rfl rfl ?_
      refine jv_if_neT rfl rfl (by decide) ?_
      refine jv_aload_n rfl rfl rfl (by decide) ?_
      refine jv_iload_n rfl rfl rfl ?_
      refine jv_iconst rfl rfl ?_
      refine jv_callV2 rfl rfl rfl rfl ⟨by decide, rfl⟩ (Nat.le_of_ble_eq_true rfl) (mo_isOf (so := 1) (by omega) (by rw [h.1 95 (by decide) (by decide)]; exact hs) (fun q => absurd q (by decide)) (fun _ => ?_))
      show jV _ _ jm_p_X10_ask _ 25 [some (.inr (.inr 94)), some (.inl c), some (.inl 1)] [.inl 0] μ
      refine jv_if_eqT rfl rfl (by decide) ?_
      refine jv_aload_n rfl rfl rfl (by decide) ?_
      refine jv_iload_n rfl rfl rfl ?_
      refine jv_callV1 rfl rfl rfl rfl ⟨by decide, rfl⟩ (Nat.le_of_ble_eq_true rfl) (mo_mark1 h (by omega) hc hso hca hs (fun μ32 hμ32 => ?_))
      show jV _ _ jm_p_X10_ask _ 33 [some (.inr (.inr 94)), some (.inl c), some (.inl 1)] [.inl (c + (μ0 95 (56 + c)))] μ32
      refine jv_ireturn rfl (Or.inl rfl) ?_
      exact k _ hμ32
    · refine jv_iload_n rfl rfl rfl ?_
      refine jv_if_neT rfl rfl (by decide) ?_
      refine jv_aload_n rfl rfl rfl (by decide) ?_
      refine jv_iload_n rfl rfl rfl ?_
      refine jv_iconst rfl rfl ?_
      refine jv_callV2 rfl rfl rfl rfl ⟨by decide, rfl⟩ (Nat.le_of_ble_eq_true rfl) (mo_isOf (so := 2) (by omega) (by rw [h.1 95 (by decide) (by decide)]; exact hs) (fun q => absurd q (by decide)) (fun _ => ?_))
      show jV _ _ jm_p_X10_ask _ 25 [some (.inr (.inr 94)), some (.inl c), some (.inl 1)] [.inl 0] μ
      refine jv_if_eqT rfl rfl (by decide) ?_
      refine jv_aload_n rfl rfl rfl (by decide) ?_
      refine jv_iload_n rfl rfl rfl ?_
      refine jv_callV1 rfl rfl rfl rfl ⟨by decide, rfl⟩ (Nat.le_of_ble_eq_true rfl) (mo_mark2 h (by omega) hc hso hca hs (fun μ32 hμ32 => ?_))
      show jV _ _ jm_p_X10_ask _ 33 [some (.inr (.inr 94)), some (.inl c), some (.inl 1)] [.inl (2 * (c + (μ0 95 (56 + c))))] μ32
      refine jv_ireturn rfl (Or.inl rfl) ?_
      exact k _ hμ32
    · refine jv_iload_n rfl rfl rfl ?_
      refine jv_if_neT rfl rfl (by decide) ?_
      refine jv_aload_n rfl rfl rfl (by decide) ?_
      refine jv_iload_n rfl rfl rfl ?_
      refine jv_iconst rfl rfl ?_
      refine jv_callV2 rfl rfl rfl rfl ⟨by decide, rfl⟩ (Nat.le_of_ble_eq_true rfl) (mo_isOf (so := 3) (by omega) (by rw [h.1 95 (by decide) (by decide)]; exact hs) (fun q => absurd q (by decide)) (fun _ => ?_))
      show jV _ _ jm_p_X10_ask _ 25 [some (.inr (.inr 94)), some (.inl c), some (.inl 1)] [.inl 0] μ
      refine jv_if_eqT rfl rfl (by decide) ?_
      refine jv_aload_n rfl rfl rfl (by decide) ?_
      refine jv_iload_n rfl rfl rfl ?_
      refine jv_callV1 rfl rfl rfl rfl ⟨by decide, rfl⟩ (Nat.le_of_ble_eq_true rfl) (mo_mark3 h (by omega) hc hso hca hs (fun μ32 hμ32 => ?_))
      show jV _ _ jm_p_X10_ask _ 33 [some (.inr (.inr 94)), some (.inl c), some (.inl 1)] [.inl ((c + (μ0 95 (56 + c))) - 1000)] μ32
      refine jv_ireturn rfl (Or.inl rfl) ?_
      exact k _ hμ32
    · refine jv_iload_n rfl rfl rfl ?_
      refine jv_if_neT rfl rfl (by decide) ?_
      refine jv_aload_n rfl rfl rfl (by decide) ?_
      refine jv_iload_n rfl rfl rfl ?_
      refine jv_iconst rfl rfl ?_
      refine jv_callV2 rfl rfl rfl rfl ⟨by decide, rfl⟩ (Nat.le_of_ble_eq_true rfl) (mo_isOf (so := 4) (by omega) (by rw [h.1 95 (by decide) (by decide)]; exact hs) (fun _ => ?_) (fun q => absurd (by decide) q))
      show jV _ _ jm_p_X10_ask _ 25 [some (.inr (.inr 94)), some (.inl c), some (.inl 1)] [.inl 1] μ
      refine jv_if_eqF rfl rfl (by decide) ?_
      refine jv_aload_n rfl rfl rfl (by decide) ?_
      refine jv_iload_n rfl rfl rfl ?_
      refine jv_callV1 rfl rfl rfl rfl ⟨by decide, rfl⟩ (Nat.le_of_ble_eq_true rfl) (mo_stMark4 h (by omega) hc hso hca hs (fun μ28 hμ28 => ?_))
      show jV _ _ jm_p_X10_ask _ 29 [some (.inr (.inr 94)), some (.inl c), some (.inl 1)] [.inl (c - ((μ0 95 (38 + c)) - 100))] μ28
      refine jv_goto rfl rfl ?_
      refine jv_ireturn rfl (Or.inl rfl) ?_
      exact k _ hμ28
    · refine jv_iload_n rfl rfl rfl ?_
      refine jv_if_neT rfl rfl (by decide) ?_
      refine jv_aload_n rfl rfl rfl (by decide) ?_
      refine jv_iload_n rfl rfl rfl ?_
      refine jv_iconst rfl rfl ?_
      refine jv_callV2 rfl rfl rfl rfl ⟨by decide, rfl⟩ (Nat.le_of_ble_eq_true rfl) (mo_isOf (so := 5) (by omega) (by rw [h.1 95 (by decide) (by decide)]; exact hs) (fun _ => ?_) (fun q => absurd (by decide) q))
      show jV _ _ jm_p_X10_ask _ 25 [some (.inr (.inr 94)), some (.inl c), some (.inl 1)] [.inl 1] μ
      refine jv_if_eqF rfl rfl (by decide) ?_
      refine jv_aload_n rfl rfl rfl (by decide) ?_
      refine jv_iload_n rfl rfl rfl ?_
      refine jv_callV1 rfl rfl rfl rfl ⟨by decide, rfl⟩ (Nat.le_of_ble_eq_true rfl) (mo_stMark5 h (by omega) hc hso hca hs (fun μ28 hμ28 => ?_))
      show jV _ _ jm_p_X10_ask _ 29 [some (.inr (.inr 94)), some (.inl c), some (.inl 1)] [.inl (c - (2 * ((μ0 95 (38 + c)) - 100)))] μ28
      refine jv_goto rfl rfl ?_
      refine jv_ireturn rfl (Or.inl rfl) ?_
      exact k _ hμ28
set_option maxRecDepth 10000 in
set_option maxHeartbeats 1000000 in
theorem pr_ask {len : Nat} {sc : Int → Int} {c : Int} {y : Int} (r_c : jm_r c) (r_y : jm_r y) : jp (jm_xt len sc) 120 218 [.inl c, .inl y] := by
  intro μ hI
  obtain ⟨⟨hit, hlan⟩, ⟨ht0, ht1, ht2⟩, ⟨hr0, hr1, hr2⟩, ⟨hst, hfa⟩, htown, hidle, himg, hpast⟩ := id hI
  obtain ⟨hwf, hcf, hkd, hmat, hrel, hh01, hhot, hnc⟩ := id htown
  obtain ⟨⟨r0, r1, r2, r3⟩, rm, rz, rc⟩ := id hrel
  obtain ⟨w0, w1, w2, w3, w4, w6, w7, w8⟩ := id hwf
  have hHμ := jH_of hI
  have hrc : ∀ c, 0 ≤ c → c < μ 95 1 → μ (18 + c) 0 = μ 95 (32 + c) ∧ μ (18 + c) 1 = μ 95 (38 + c) ∧ μ (18 + c) 2 = μ 95 (44 + c) ∧ μ (18 + c) 3 = μ 95 (50 + c) ∧ μ (18 + c) 4 = μ 95 (56 + c) := fun c a b => rc c a b
  refine jv_enter (d := 199) jm_p_X9_ask [some (.inr (.inr 0)), some (.inl c), some (.inl y)] rfl rfl rfl (Nat.le_of_ble_eq_true rfl) rfl rfl ?_
  refine jv_aload_n rfl rfl rfl (by decide) ?_
  refine jv_iload_n rfl rfl rfl ?_
  refine jv_callV1 rfl rfl rfl rfl ⟨by decide, rfl⟩ (Nat.le_of_ble_eq_true rfl) (cl_noComer (fun b2 => ?_) (fun b2 => ?_))
  · show jV _ _ jm_p_X9_ask _ 3 [some (.inr (.inr 0)), some (.inl c), some (.inl y)] [.inl 1] μ
    refine jv_if_neT rfl rfl (by decide) ?_
    refine jv_ldc rfl rfl ?_
    refine jv_ireturn rfl (Or.inl rfl) ?_
    refine ⟨_, rfl, ?_⟩
    skip
    refine jv_enter (d := 199) jm_p_X10_ask [some (.inr (.inr 94)), some (.inl c), some (.inl y)] rfl rfl rfl (Nat.le_of_ble_eq_true rfl) rfl rfl ?_
    refine jv_aload_n rfl rfl rfl (by decide) ?_
    refine jv_iload_n rfl rfl rfl ?_
    refine jv_callV1 rfl rfl rfl rfl ⟨by decide, rfl⟩ (Nat.le_of_ble_eq_true rfl) (mo_isComer (by omega) (fun b2 => ?_) (fun b2 => ?_))
    · first
      | (exfalso; omega)
      | skip
        show jV _ _ jm_p_X10_ask _ 3 [some (.inr (.inr 94)), some (.inl c), some (.inl y)] [.inl 1] μ
        refine jv_if_eqF rfl rfl (by decide) ?_
        refine jv_iload_n rfl rfl rfl ?_
        refine jv_i2l rfl rfl ?_
        refine jv_lconst rfl rfl ?_
        refine jv_lconst rfl rfl ?_
        refine jv_callS3 rfl rfl rfl (Nat.le_of_ble_eq_true rfl) (mo_in (fun b8 => ?_) (fun b8 => ?_))
        · first
          | (exfalso; omega)
          | skip
            show jV _ _ jm_p_X10_ask _ 9 [some (.inr (.inr 94)), some (.inl c), some (.inl y)] [.inl 1] μ
            refine jv_if_neT rfl rfl (by decide) ?_
            refine jv_aload_n rfl rfl rfl (by decide) ?_
            refine jv_iconst rfl rfl ?_
            refine jv_puti rfl rfl rfl ⟨by decide, rfl⟩ (Or.inl rfl) (fun ν14 eν14 => ?_)
            exfalso; omega
        · first
          | (exfalso; omega)
          | skip
            show jV _ _ jm_p_X10_ask _ 9 [some (.inr (.inr 94)), some (.inl c), some (.inl y)] [.inl 0] μ
            refine jv_if_neF rfl rfl (by decide) ?_
            refine jv_ldc rfl rfl ?_
            refine jv_ireturn rfl (Or.inl rfl) ?_
            exact ⟨jv_one (by omega), hI⟩
    · first
      | (exfalso; omega)
      | skip
        show jV _ _ jm_p_X10_ask _ 3 [some (.inr (.inr 94)), some (.inl c), some (.inl y)] [.inl 0] μ
        refine jv_if_eqT rfl rfl (by decide) ?_
        refine jv_ldc rfl rfl ?_
        refine jv_ireturn rfl (Or.inl rfl) ?_
        exact ⟨jv_one (by omega), hI⟩
  · show jV _ _ jm_p_X9_ask _ 3 [some (.inr (.inr 0)), some (.inl c), some (.inl y)] [.inl 0] μ
    refine jv_if_neF rfl rfl (by decide) ?_
    refine jv_iload_n rfl rfl rfl ?_
    refine jv_callS1 rfl rfl rfl (Nat.le_of_ble_eq_true rfl) (cl_neither (fun b5 => ?_) (fun b5 => ?_))
    · show jV _ _ jm_p_X9_ask _ 6 [some (.inr (.inr 0)), some (.inl c), some (.inl y)] [.inl 1] μ
      refine jv_if_eqF rfl rfl (by decide) ?_
      refine jv_ldc rfl rfl ?_
      refine jv_ireturn rfl (Or.inl rfl) ?_
      refine ⟨_, rfl, ?_⟩
      skip
      refine jv_enter (d := 199) jm_p_X10_ask [some (.inr (.inr 94)), some (.inl c), some (.inl y)] rfl rfl rfl (Nat.le_of_ble_eq_true rfl) rfl rfl ?_
      refine jv_aload_n rfl rfl rfl (by decide) ?_
      refine jv_iload_n rfl rfl rfl ?_
      refine jv_callV1 rfl rfl rfl rfl ⟨by decide, rfl⟩ (Nat.le_of_ble_eq_true rfl) (mo_isComer (by omega) (fun b2 => ?_) (fun b2 => ?_))
      · first
        | (exfalso; omega)
        | skip
          show jV _ _ jm_p_X10_ask _ 3 [some (.inr (.inr 94)), some (.inl c), some (.inl y)] [.inl 1] μ
          refine jv_if_eqF rfl rfl (by decide) ?_
          refine jv_iload_n rfl rfl rfl ?_
          refine jv_i2l rfl rfl ?_
          refine jv_lconst rfl rfl ?_
          refine jv_lconst rfl rfl ?_
          refine jv_callS3 rfl rfl rfl (Nat.le_of_ble_eq_true rfl) (mo_in (fun b8 => ?_) (fun b8 => ?_))
          · first
            | (exfalso; omega)
            | skip
              show jV _ _ jm_p_X10_ask _ 9 [some (.inr (.inr 94)), some (.inl c), some (.inl y)] [.inl 1] μ
              refine jv_if_neT rfl rfl (by decide) ?_
              refine jv_aload_n rfl rfl rfl (by decide) ?_
              refine jv_iconst rfl rfl ?_
              refine jv_puti rfl rfl rfl ⟨by decide, rfl⟩ (Or.inl rfl) (fun ν14 eν14 => ?_)
              exfalso; omega
          · first
            | (exfalso; omega)
            | skip
              show jV _ _ jm_p_X10_ask _ 9 [some (.inr (.inr 94)), some (.inl c), some (.inl y)] [.inl 0] μ
              refine jv_if_neF rfl rfl (by decide) ?_
              refine jv_ldc rfl rfl ?_
              refine jv_ireturn rfl (Or.inl rfl) ?_
              exact ⟨jv_one (by omega), hI⟩
      · first
        | (exfalso; omega)
        | skip
          show jV _ _ jm_p_X10_ask _ 3 [some (.inr (.inr 94)), some (.inl c), some (.inl y)] [.inl 0] μ
          refine jv_if_eqT rfl rfl (by decide) ?_
          refine jv_ldc rfl rfl ?_
          refine jv_ireturn rfl (Or.inl rfl) ?_
          exact ⟨jv_one (by omega), hI⟩
    · show jV _ _ jm_p_X9_ask _ 6 [some (.inr (.inr 0)), some (.inl c), some (.inl y)] [.inl 0] μ
      refine jv_if_eqT rfl rfl (by decide) ?_
      refine jv_aload_n rfl rfl rfl (by decide) ?_
      refine jv_getr (w := 58) rfl rfl rfl ⟨by decide, rfl⟩ rfl rfl ?_
      refine jv_aload_n rfl rfl rfl (by decide) ?_
      refine jv_getr (w := 7) rfl rfl rfl ⟨by decide, rfl⟩ rfl rfl ?_
      refine jv_getr (w := 9) rfl rfl rfl ⟨by decide, rfl⟩ rfl rfl ?_
      refine jv_iload_n rfl rfl rfl ?_
      refine jv_aaloadv (v := 18 + c) rfl rfl rfl ⟨by decide, by decide, by decide⟩ ⟨by omega, by omega⟩ (jH_com hHμ (by omega) (by omega)) ?_
      refine jv_iload_n rfl rfl rfl ?_
      refine jv_iload_n rfl rfl rfl ?_
      have hr1 := hrc c (by omega) (by omega)
      have w8c := w8 c (by omega) (by omega)
      have hcc := hcf c (by omega) (by omega)
      have hkc := hkd c (by omega) (by omega)
      refine jv_callV3 rfl rfl rfl rfl ⟨by decide, rfl⟩ (Nat.le_of_ble_eq_true rfl) (cl_answer (so := μ 95 (32 + c)) (jz_com7 (by omega) (by omega)) (by omega) rfl rfl rfl rfl rfl rfl rfl rfl rfl rfl rfl rfl hr1.1 (by omega) (by omega) (by omega) (by omega) (by omega) (fun μ18 hμ18 => ?_))
      show jV _ _ jm_p_X9_ask _ 19 [some (.inr (.inr 0)), some (.inl c), some (.inl y)] [.inl (jansV (μ 95 (32 + c)) y c (μ (18 + c) 1) (μ (18 + c) 4))] μ18
      refine jv_ireturn rfl (Or.inl rfl) ?_
      refine ⟨_, rfl, ?_⟩
      have g95 : μ18 95 = μ 95 := hμ18.1 95 (by decide) (by decide)
      have g01 : μ18 95 1 = μ 95 1 := by rw [g95]
      refine jv_enter (d := 199) jm_p_X10_ask [some (.inr (.inr 94)), some (.inl c), some (.inl y)] rfl rfl rfl (Nat.le_of_ble_eq_true rfl) rfl rfl ?_
      refine jv_aload_n rfl rfl rfl (by decide) ?_
      refine jv_iload_n rfl rfl rfl ?_
      refine jv_callV1 rfl rfl rfl rfl ⟨by decide, rfl⟩ (Nat.le_of_ble_eq_true rfl) (mo_isComer (by omega) (fun b2 => ?_) (fun b2 => ?_))
      · first
        | (exfalso; omega)
        | skip
          show jV _ _ jm_p_X10_ask _ 3 [some (.inr (.inr 94)), some (.inl c), some (.inl y)] [.inl 1] μ18
          refine jv_if_eqF rfl rfl (by decide) ?_
          refine jv_iload_n rfl rfl rfl ?_
          refine jv_i2l rfl rfl ?_
          refine jv_lconst rfl rfl ?_
          refine jv_lconst rfl rfl ?_
          refine jv_callS3 rfl rfl rfl (Nat.le_of_ble_eq_true rfl) (mo_in (fun b8 => ?_) (fun b8 => ?_))
          · first
            | (exfalso; omega)
            | skip
              show jV _ _ jm_p_X10_ask _ 9 [some (.inr (.inr 94)), some (.inl c), some (.inl y)] [.inl 1] μ18
              refine jv_if_neT rfl rfl (by decide) ?_
              refine jv_aload_n rfl rfl rfl (by decide) ?_
              refine jv_iconst rfl rfl ?_
              refine jv_puti rfl rfl rfl ⟨by decide, rfl⟩ (Or.inl rfl) (fun ν14 eν14 => ?_)
              refine mo_askT (μ0 := μ18) (so := μ 95 (32 + c)) ⟨fun z a b => by rw [eν14, jm_off1 a], fun j q => ?_, ?_, fun j j0 j1 => by exfalso; omega⟩ (by omega) (by rw [g95]; omega) (by rw [g95]; omega) (by rw [g95]) (by omega) (by omega) (fun μz hz => ?_)
              · rw [eν14, jm_uc_self]
                unfold jm_u1
                rw [if_neg q]
              · rw [eν14]; rfl
              have hle := jans_le (so := μ 95 (32 + c)) (y := y) (by omega) (by omega)
              have f58 : μz 58 = μ18 58 := hz.1 58 (by decide) (by decide)
              have f59 : μz 59 = μ18 59 := hz.1 59 (by decide) (by decide)
              refine ⟨jv_one ?_, jI_traceC hI ⟨by rw [f58, hμ18.2.1, hz.2.2.1], by rw [hz.2.2.1]; exact hle, fun j j0 j1 => ?_⟩ (fun z a b c' d' => by rw [hz.1 z c' d', hμ18.1 z a b]) (fun j q => by rw [hz.2.1 j q, hμ18.1 94 (by decide) (by decide)])⟩
              · rw [g95, hr1.2.1, hr1.2.2.2.2]
              · rw [hz.2.2.1] at j1
                rw [f59, hμ18.2.2 j j0 j1, hz.2.2.2 j j0 j1]
          · first
            | (exfalso; omega)
            | skip
              show jV _ _ jm_p_X10_ask _ 9 [some (.inr (.inr 94)), some (.inl c), some (.inl y)] [.inl 0] μ18
              refine jv_if_neF rfl rfl (by decide) ?_
              refine jv_ldc rfl rfl ?_
              refine jv_ireturn rfl (Or.inl rfl) ?_
              exfalso; omega
      · first
        | (exfalso; omega)
        | skip
          show jV _ _ jm_p_X10_ask _ 3 [some (.inr (.inr 94)), some (.inl c), some (.inl y)] [.inl 0] μ18
          refine jv_if_eqT rfl rfl (by decide) ?_
          refine jv_ldc rfl rfl ?_
          refine jv_ireturn rfl (Or.inl rfl) ?_
          exfalso; omega
