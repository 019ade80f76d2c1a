/-! a hotel is read by both -/
theorem jg_m24 {μ : jm_M} (h : ji_idle μ) : jh_mats μ 24 := by
  obtain ⟨a, b, -, -⟩ := h
  refine ⟨fun m m0 m1 => ?_, fun m m' m0 m1 m0' m1' q => ?_, fun c c0 c1 => ?_⟩
  · have := (a m m0 m1).1
    show μ 25 m = _ ∨ μ 25 m = _ ∨ μ 25 m = _ ∨ μ 25 m = _
    omega
  · have q : μ 25 m = μ 25 m' := q
    have := (a m m0 m1).1
    have := (a m' m0' m1').1
    omega
  · have := (b c c0 c1).1
    show μ 26 c = _
    omega
theorem jdr_rel {μ : jm_M} {T : Int → Int} (hi : ∀ m, 0 ≤ m → m < 4 → μ 25 m = 27 + 2 * m) (ht : jtv T) (h : jdr μ T) : jh_rel μ 24 T := by
  obtain ⟨a, b, c, d, e⟩ := h
  have t0 := ht.1.1
  have t1 := ht.1.2.1
  refine ⟨a, fun m m0 m1 => ?_, fun m m0 m1 k k0 k1 => ?_, fun x x0 x1 => ?_⟩
  · show μ (μ 25 m) 0 = _ ∧ ∀ k, 0 ≤ k → k < 6 → μ (μ 25 m + 1) k = _
    rw [hi m m0 (by omega)]
    refine ⟨b m m0 m1, fun k k0 k1 => ?_⟩
    rw [show 27 + 2 * m + 1 = 28 + 2 * m by omega, c m m0 (by omega) k k0 k1, ht.2.2.1 _ (by omega) (by omega)]
  · show μ (μ 25 m + 1) k = 0
    rw [hi m (by omega) m1, show 27 + 2 * m + 1 = 28 + 2 * m by omega]
    exact c m (by omega) m1 k k0 k1
  · show μ (35 + x) 0 = _ ∧ μ (35 + x) 1 = _ ∧ μ (35 + x) 2 = _ ∧ μ (35 + x) 3 = _ ∧ μ (35 + x) 4 = _
    have q := d x x0 x1
    have r := e x x0 (by omega)
    have s := ht.2.2.2.2.1 x x0 (by omega)
    omega
theorem jtv_wf {T : Int → Int} (h : jtv T) : jt_wf T ∧ jt_cf T 999 ∧ jt_kd T := by
  obtain ⟨⟨a0, a1, a2, a3⟩, b, c, d, e, f⟩ := h
  refine ⟨⟨a0, a1, a2, a3, b, fun j j0 j1 => by rw [c j j0 j1]; decide, fun m m0 m1 => ?_, d⟩, fun x x0 x1 => by rw [e x x0 x1]; decide, f⟩
  unfold jt_lies
  rw [c _ (by omega) (by omega), c _ (by omega) (by omega), c _ (by omega) (by omega), c _ (by omega) (by omega), c _ (by omega) (by omega), c _ (by omega) (by omega)]
  omega
/-- a hotel was refused -/
theorem jI_fail {μ μ' : jm_M} (h : jI μ) (e : ∀ z, (z ≠ 0 ∧ z ≠ 5 ∧ (z < 24 ∨ z = 25 ∨ z = 26 ∨ 40 < z) ∧ z ≠ 94 ∧ z ≠ 95) → μ' z = μ z) (e95 : ∀ j, j < 1674 → μ' 95 j = μ 95 j) (e1 : μ' 94 1 = μ 94 1) (e2 : μ' 94 2 = μ 94 2) (e12 : μ' 94 12 = μ 94 12) (es : μ' 0 11 = μ' 94 10) (ef : μ' 0 10 = μ' 94 9) (t5 : μ' 5 1 = 0) (t8 : μ' 94 8 = 0) : jI μ' := by
  obtain ⟨a, b, c, d, f, g, ⟨i0, i1⟩, j⟩ := h
  exact ⟨jg_rows (e _ (by decide)) (e _ (by decide)) (e _ (by decide)) (e _ (by decide)) (e _ (by decide)) (e _ (by decide)) a, ⟨by omega, by omega, fun j j0 j1 => by exfalso; omega⟩, jg_trace (e _ (by decide)) (e _ (by decide)) (e _ (by decide)) e12 c, ⟨es, ef⟩, jg_town2 (fun z z0 z1 => e z (by omega)) (fun k k0 k1 => e95 k (by omega)) e1 f,
    jg_idle (e _ (by decide)) (e _ (by decide)) (e _ (by decide)) (e _ (by decide)) (e _ (by decide)) (e _ (by decide)) (e _ (by decide)) g,
    ⟨jg_img e1 (Or.inl rfl) g (by rw [e 42 (by decide)]) (by rw [e 96 (by decide)]) (fun z z0 z1 => e z (by omega)) (fun k k0 k1 => e95 _ (by omega)) i0, jg_img e1 (Or.inr rfl) g (by rw [e 42 (by decide)]) (by rw [e 96 (by decide)]) (fun z z0 z1 => e z (by omega)) (fun k k0 k1 => e95 _ (by omega)) i1⟩,
    jg_past2 f.1.2.1.2 e2 (e _ (by decide)) (e _ (by decide)) (fun k k0 k1 => e95 _ (by omega)) j⟩
theorem jps_r {g : Int → Int} {N a c : Int} (h : 0 ≤ a ∧ a ≤ N) : 0 ≤ (jps g N a c).2.1 ∧ (jps g N a c).2.1 ≤ N := by
  unfold jps
  split
  · show 0 ≤ a + 1 ∧ a + 1 ≤ N
    omega
  · exact h
theorem jpw_r {lo hi v a b N : Int} (h : 0 ≤ a ∧ a ≤ N) (k : 0 ≤ b ∧ b ≤ N) : 0 ≤ (jpw lo hi v a b).2.1 ∧ (jpw lo hi v a b).2.1 ≤ N := by
  unfold jpw
  split
  · exact k
  · exact h
theorem jpn_r {g : Int → Int} {N a lo hi : Int} (h : 0 ≤ a ∧ a ≤ N) : 0 ≤ (jpn g N a lo hi).2.1 ∧ (jpn g N a lo hi).2.1 ≤ N := by
  unfold jpn
  split
  · split
    · split
      · exact h
      · exact jpw_r h (by omega)
    · exact jpw_r h (by omega)
  · exact h
theorem jbd_r {N : Int} {r : Int × Int × Int} {f : Int → Int → jR} (hr : 0 ≤ r.2.1 ∧ r.2.1 ≤ N) (hf : ∀ a v, 0 ≤ a → a ≤ N → 0 ≤ (f a v).2.1 ∧ (f a v).2.1 ≤ N) : 0 ≤ (jbd r f).2.1 ∧ (jbd r f).2.1 ≤ N := by
  unfold jbd
  split
  · exact hf _ _ hr.1 hr.2
  · exact hr
theorem jbR_r {N : Int} {r : jR} {f : Int → (Int → Int) → jR} (hr : 0 ≤ r.2.1 ∧ r.2.1 ≤ N) (hf : ∀ a T, 0 ≤ a → a ≤ N → 0 ≤ (f a T).2.1 ∧ (f a T).2.1 ≤ N) : 0 ≤ (jbR r f).2.1 ∧ (jbR r f).2.1 ≤ N := by
  unfold jbR
  split
  · exact hf _ _ hr.1 hr.2
  · exact hr
theorem jpL_r {g : Int → Int} {N : Int} (h : 0 ≤ N) : 0 ≤ (jpL g N).2.1 ∧ (jpL g N).2.1 ≤ N := by
  unfold jpL
  exact jbd_r (jps_r ⟨by omega, h⟩) (fun _ _ p q => jbd_r (jpn_r ⟨p, q⟩) (fun _ _ p q => jbd_r (jps_r ⟨p, q⟩) (fun _ _ p q => jbd_r (jpn_r ⟨p, q⟩) (fun _ _ p q => jbd_r (jps_r ⟨p, q⟩) (fun _ _ p q => ⟨p, q⟩)))))
theorem jpM_r {g : Int → Int} {N : Int} : ∀ (k : Nat) (a : Int) (T : Int → Int), 0 ≤ a → a ≤ N → 0 ≤ (jpM g N k a T).2.1 ∧ (jpM g N k a T).2.1 ≤ N
  | 0, a, T, p, q => ⟨p, q⟩
  | k + 1, a, T, p, q => by
    unfold jpM
    split
    · split
      · exact ⟨p, q⟩
      · exact jbd_r (jpn_r ⟨by omega, by omega⟩) (fun _ _ p q => jbd_r (jps_r ⟨p, q⟩) (fun _ _ p q => jpM_r k _ _ p q))
    · exact ⟨p, q⟩
theorem jpC_r {g : Int → Int} {N : Int} : ∀ (k : Nat) (a : Int) (T : Int → Int), 0 ≤ a → a ≤ N → 0 ≤ (jpC g N k a T).2.1 ∧ (jpC g N k a T).2.1 ≤ N
  | 0, a, T, p, q => ⟨p, q⟩
  | k + 1, a, T, p, q => by
    unfold jpC
    split
    · split
      · exact ⟨p, q⟩
      · exact jbd_r (jpn_r ⟨by omega, by omega⟩) (fun _ _ p q => jbd_r (jps_r ⟨p, q⟩) (fun _ _ p q => jbd_r (jpn_r ⟨p, q⟩) (fun _ _ p q => jbd_r (jps_r ⟨p, q⟩) (fun _ _ p q => jbd_r (jpn_r ⟨p, q⟩) (fun _ _ p q => jbd_r (jps_r ⟨p, q⟩) (fun _ _ p q => jpC_r k _ _ p q))))))
    · split
      · exact ⟨p, q⟩
      · exact ⟨p, q⟩
theorem jpA_r {g : Int → Int} {N w a : Int} {T : Int → Int} (h : 0 ≤ N) (e : jpA g N = (w, a, T)) : 0 ≤ a ∧ a ≤ N := by
  have q : 0 ≤ (jpA g N).2.1 ∧ (jpA g N).2.1 ≤ N := by
    unfold jpA
    refine jbR_r (jpL_r h) (fun a T p q => ?_)
    split
    · exact jbR_r (jpM_r 5 _ _ p q) (fun a T p q => jpC_r 7 _ _ p q)
    · exact ⟨p, q⟩
  rw [e] at q
  exact q
set_option maxRecDepth 10000 in
theorem cl_place {X : jm_X} {d : Nat} {Q : jv_P} {μ : jm_M}  (k : Q [.inl (μ 5 2)] μ) : cV X (d + 1) 60 [.inr (.inr 5)] μ Q := by
  refine jv_enter (d := d + 0) jm_p_X6_place [some (.inr (.inr 5))] rfl rfl rfl (Nat.le_of_ble_eq_true rfl) rfl rfl ?_
  refine jv_aload_n rfl rfl rfl (by decide) ?_
  refine jv_geti rfl rfl rfl ⟨by decide, rfl⟩ (by decide) ?_
  refine jv_ireturn rfl (Or.inl rfl) ?_
  exact k
set_option maxRecDepth 10000 in
set_option maxHeartbeats 1000000 in
theorem pr_hotel {X : jm_X}   : jp X 93 159 [] := by
  intro μ hI
  obtain ⟨⟨hit, hlan⟩, ⟨ht0, ht1, ht2⟩, ⟨hr0, hr1, hr2⟩, ⟨hst, hfa⟩, htown, hidle, himg, hpast⟩ := id hI
  obtain ⟨hwf, hcf, hkd, hmat, hrel, hh01, hhot, hnc⟩ := id htown
  obtain ⟨⟨r0, r1, r2, r3⟩, rm, rz, rc⟩ := id hrel
  obtain ⟨w0, w1, w2, w3, w4, w6, w7, w8⟩ := id hwf
  refine jv_enter (d := 199) jm_p_X9_hotel [some (.inr (.inr 0)), none] rfl rfl rfl (Nat.le_of_ble_eq_true rfl) rfl rfl ?_
  refine jv_aload_n rfl rfl rfl (by decide) ?_
  refine jv_getr (w := 5) rfl rfl rfl ⟨by decide, rfl⟩ rfl rfl ?_
  refine jv_aload_n rfl rfl rfl (by decide) ?_
  refine jv_getr (w := 24) rfl rfl rfl ⟨by decide, rfl⟩ rfl rfl ?_
  refine jv_callV1 rfl rfl rfl rfl ⟨by decide, rfl⟩ (Nat.le_of_ble_eq_true rfl) (cl_readInto (g := (fun j => μ 100 j)) (N := μ 94 8) (fun m p q => (hidle.1 m p q).1) (fun c p q => (hidle.2.1 c p q).1) ht0 ht1 ht2 (fun a4 T4 μ4 e4 v4 n4 d4 f4 z4 => ?_) (fun w4 a4 μ4 e4 h4 p4 f4 z4 => ?_))
  · show jV _ _ jm_p_X9_hotel _ 5 [some (.inr (.inr 0)), none] [.inl 0] μ4
    refine jv_istore_nK (L2 := [some (.inr (.inr 0)), some (.inl 0)]) rfl rfl rfl ?_
    refine jv_iload_n rfl rfl rfl ?_
    refine jv_if_eqT rfl rfl (by decide) ?_
    refine jv_aload_n rfl rfl rfl (by decide) ?_
    refine jv_getr (w := 7) rfl rfl rfl ⟨by decide, rfl⟩ rfl rfl ?_
    refine jv_aload_n rfl rfl rfl (by decide) ?_
    refine jv_getr (w := 24) rfl rfl rfl ⟨by decide, rfl⟩ rfl rfl ?_
    have hid4 : ji_idle μ4 := jg_idle (f4 _ (by omega)) (f4 _ (by omega)) (f4 _ (by omega)) (f4 _ (by omega)) (f4 _ (by omega)) (f4 _ (by omega)) (f4 _ (by omega)) hidle
    have hm4 : jh_mats μ4 7 := jg_mats (f4 8 (by omega)) (f4 9 (by omega)) hmat
    refine jv_callV1 rfl rfl rfl rfl ⟨by decide, rfl⟩ (Nat.le_of_ble_eq_true rfl) (cl_take7_24 hm4 (jg_m24 hid4) (fun μ21 hμ21 => ?_))
    show jV _ _ jm_p_X9_hotel _ 22 [some (.inr (.inr 0)), some (.inl 0)] [] μ21
    refine jv_aload_n rfl rfl rfl (by decide) ?_
    refine jv_getr (w := 43) rfl rfl rfl ⟨by decide, rfl⟩ rfl rfl ?_
    refine jv_callV0 rfl rfl rfl rfl ⟨by decide, rfl⟩ (Nat.le_of_ble_eq_true rfl) (cl_forget (fun μ24 eμ24 => ?_))
    show jV _ _ jm_p_X9_hotel _ 25 [some (.inr (.inr 0)), some (.inl 0)] [] μ24
    refine jv_aload_n rfl rfl rfl (by decide) ?_
    refine jv_getr (w := 7) rfl rfl rfl ⟨by decide, rfl⟩ rfl rfl ?_
    refine jv_geti rfl rfl rfl ⟨by decide, rfl⟩ (by decide) ?_
    refine jv_ireturn rfl (Or.inl rfl) ?_
    refine ⟨_, rfl, ?_⟩
    have t0 := v4.1.1
    have t1 := v4.1.2.1
    have c1 : ∀ z, (z ≠ 5 ∧ z ≠ 43 ∧ (z < 7 ∨ z = 8 ∨ z = 9 ∨ (23 < z ∧ z < 24) ∨ z = 25 ∨ z = 26 ∨ 40 < z)) → μ24 z = μ z := fun z q => by rw [eμ24, jm_off1 q.2.1, hμ21.1 z (by omega), f4 z (by omega)]
    have c94 : μ24 94 = μ 94 := c1 94 (by omega)
    have c100 : μ24 100 = μ 100 := c1 100 (by omega)
    have hN1 : μ24 94 8 = μ 94 8 := by rw [c94]
    have hG1 : ∀ j, 0 ≤ j → j < μ 94 8 → μ24 100 j = (fun j => μ 100 j) j ∧ 0 ≤ (fun j => μ 100 j) j ∧ (fun j => μ 100 j) j ≤ 255 := fun j j0 j1 => by rw [c100]; exact ⟨rfl, (ht2 j j0 j1).2⟩
    have hrl : jh_rel μ21 7 T4 := jhp_rel t0 t1 hμ21 (jdr_rel (fun m p q => (hid4.1 m p q).1) v4 d4)
    have h73 : μ24 7 3 = T4 1 := by rw [eμ24, jm_off1 (by decide)]; exact hrl.1.2.2.2
    refine jv_enter (d := 199) jm_p_X10_hotel [some (.inr (.inr 94)), none] rfl rfl rfl (Nat.le_of_ble_eq_true rfl) rfl rfl ?_
    refine jv_aload_n rfl rfl rfl (by decide) ?_
    refine jv_callV0 rfl rfl rfl rfl ⟨by decide, rfl⟩ (Nat.le_of_ble_eq_true rfl) (mo_reads (g := (fun j => μ 100 j)) hN1 ht1 hG1 (fun a1 T1 ν1 e1 t1_ f1 => ?_) (fun w1_ a1 ν1 e1 h1_ f1 p1 q1 => ?_))
    · first
      | (exfalso; omega)
      | skip
        show jV _ _ jm_p_X10_hotel _ 2 [some (.inr (.inr 94)), none] [.inl 1] ν1
        refine jv_istore_nK (L2 := [some (.inr (.inr 94)), some (.inl 1)]) rfl rfl rfl ?_
        refine jv_aload_n rfl rfl rfl (by decide) ?_
        refine jv_iconst rfl rfl ?_
        refine jv_puti rfl rfl rfl ⟨by decide, rfl⟩ (Or.inl rfl) (fun ν5 eν5 => ?_)
        refine jv_iload_n rfl rfl rfl ?_
        refine jv_if_neT rfl rfl (by decide) ?_
        refine jv_aload_n rfl rfl rfl (by decide) ?_
        refine jv_sipush rfl rfl ?_
        refine jv_iconst rfl rfl ?_
        refine jv_callV2 rfl rfl rfl rfl ⟨by decide, rfl⟩ (Nat.le_of_ble_eq_true rfl) (mo_copyTown (by omega) (by omega) (by omega) ?_)
        generalize eν20 : jm_uc ν5 95 (jt_cp (ν5 95) 1674 0 62) = ν20
        show jV _ _ jm_p_X10_hotel _ 21 [some (.inr (.inr 94)), some (.inl 1)] [] ν20
        refine jv_aload_n rfl rfl rfl (by decide) ?_
        refine jv_iconst rfl rfl ?_
        refine jv_puti rfl rfl rfl ⟨by decide, rfl⟩ (Or.inr ⟨rfl, by decide⟩) (fun ν23 eν23 => ?_)
        refine jv_aload_n rfl rfl rfl (by decide) ?_
        refine jv_iconst rfl rfl ?_
        refine jv_puti rfl rfl rfl ⟨by decide, rfl⟩ (Or.inl rfl) (fun ν26 eν26 => ?_)
        refine jv_aload_n rfl rfl rfl (by decide) ?_
        refine jv_getr (w := 95) rfl rfl rfl ⟨by decide, rfl⟩ rfl rfl ?_
        refine jv_iconst rfl rfl ?_
        refine jv_iaload rfl rfl (by decide) rfl ⟨by omega, by omega⟩ ?_
        refine jv_ireturn rfl (Or.inl rfl) ?_
        rw [e4] at e1
        have eT : T4 = T1 := congrArg (fun q => q.2.2) e1
        have z95 : ν26 95 = jt_cp (ν1 95) 1674 0 62 := by rw [eν26, jm_off1 (by decide), eν23, jm_off1 (by decide), ← eν20, jm_uc_self, eν5, jm_off1 (by decide)]
        have zT : ∀ j, 0 ≤ j → j < 62 → ν26 95 j = T4 j := fun j j0 j1 => by
          rw [z95, eT]
          unfold jt_cp
          rw [if_pos (by omega), show j - 0 = j by omega]
          exact t1_ j j0 j1
        have zT' : ∀ j, 0 ≤ j → j < 62 → T4 j = ν26 95 j := fun j p q => (zT j p q).symm
        have zz : ∀ z, z ≠ 94 → z ≠ 95 → ν26 z = μ24 z := fun z p q => by rw [eν26, jm_off1 p, eν23, jm_off1 p, ← eν20, jm_off1 q, eν5, jm_off1 p, f1.1 z p q]
        have zq : ∀ j, j ≠ 1 → j ≠ 2 → j ≠ 8 → j ≠ 13 → j ≠ 14 → j ≠ 15 → ν26 94 j = μ 94 j := fun j p q r s u v => by
          rw [eν26, jm_uc_self]
          unfold jm_u1
          rw [if_neg q, eν23, jm_uc_self]
          unfold jm_u1
          rw [if_neg p, ← eν20, jm_off1 (by decide), eν5, jm_uc_self]
          unfold jm_u1
          rw [if_neg r, f1.2.1 j s u v, c94]
        have z8 : ν26 94 8 = 0 := by
          rw [eν26, jm_uc_self]
          show ν23 94 8 = 0
          rw [eν23, jm_uc_self]
          show ν20 94 8 = 0
          rw [← eν20, jm_off1 (by decide), eν5]
          rfl
        have z1 : ν26 94 1 = 1 := by
          rw [eν26, jm_uc_self]
          show ν23 94 1 = 1
          rw [eν23, jm_uc_self]
          rfl
        have z2 : ν26 94 2 = 0 := by rw [eν26, jm_uc_self]; rfl
        obtain ⟨vw, vc, vk⟩ := jtv_wf v4
        have y1 := zT 1 (by decide) (by decide)
        have y0 := zT 0 (by decide) (by decide)
        have z5 : ν26 5 1 = 0 := by rw [zz 5 (by decide) (by decide), eμ24, jm_off1 (by decide), hμ21.1 5 (by omega)]; exact z4
        have z43 : ν26 43 = jm_u1 (μ 43) 2 0 := by rw [zz 43 (by decide) (by decide), eμ24, jm_uc_self, hμ21.1 43 (by omega), f4 43 (by omega)]
        have g7 : ∀ z, 7 ≤ z → z ≤ 7 + 16 → ν26 z = μ21 z := fun z p q => by rw [zz z (by omega) (by omega), eμ24, jm_off1 (by omega)]
        have hmb : jh_mats μ21 7 := jg_mats (hμ21.1 _ (by omega)) (hμ21.1 _ (by omega)) hm4
        refine ⟨jv_one (by omega), jI_new hI (fun z q => by rw [zz z (by omega) (by omega)]; exact c1 z (by omega)) ?_ ?_ ⟨by omega, by omega, fun j j0 j1 => by exfalso; omega⟩ (zq 12 (by decide) (by decide) (by decide) (by decide) (by decide) (by decide)) z1 (jt_wf_congr zT' vw) (jt_cf_congr zT' vc) (jt_kd_congr zT' vw.2.1.2 vk) (jg_mats (g7 8 (by decide) (by decide)) (g7 9 (by decide) (by decide)) hmb) (jg_rel hmb g7 zT vw.1 vw.2.1 hrl) (by omega) (fun j p q => ?_) z2 (by rw [z43]; rfl) (by rw [z43]; exact hpast.2.2.1)⟩
        · rw [zz 0 (by decide) (by decide), c1 0 (by omega), zq 10 (by decide) (by decide) (by decide) (by decide) (by decide) (by decide)]
          exact hst
        · rw [zz 0 (by decide) (by decide), c1 0 (by omega), zq 9 (by decide) (by decide) (by decide) (by decide) (by decide) (by decide)]
          exact hfa
        · rw [z95]
          unfold jt_cp
          rw [if_neg (by omega), f1.2.2 j (by omega), c1 95 (by omega)]
    · first
      | (exfalso; omega)
      | skip
        exfalso
        rw [e4] at e1
        exact h1_ (congrArg Prod.fst e1).symm
  · show jV _ _ jm_p_X9_hotel _ 5 [some (.inr (.inr 0)), none] [.inl w4] μ4
    have ra4 := jpA_r ht1.1 e4
    refine jv_istore_n (fun x => [some (.inr (.inr 0)), some (.inl x)]) rfl rfl (fun _ => rfl) (fun x1_5 ex1_5 => ?_)
    refine jv_iload_n rfl rfl rfl ?_
    refine jv_if_eqF rfl rfl (by omega) ?_
    have hx1 : x1_5 = w4 := ex1_5
    refine jv_aload_n rfl rfl rfl (by decide) ?_
    refine jv_iload_n rfl rfl rfl ?_
    refine jv_puti rfl rfl rfl ⟨by decide, rfl⟩ (Or.inl rfl) (fun μ10 eμ10 => ?_)
    refine jv_ldc rfl rfl ?_
    refine jv_aload_n rfl rfl rfl (by decide) ?_
    refine jv_getr (w := 5) rfl rfl rfl ⟨by decide, rfl⟩ rfl rfl ?_
    refine jv_callV0 rfl rfl rfl rfl ⟨by decide, rfl⟩ (Nat.le_of_ble_eq_true rfl) (cl_place ?_)
    show jV _ _ jm_p_X9_hotel _ 15 [some (.inr (.inr 0)), some (.inl x1_5)] [.inl (μ10 5 2), .inl (-1000100)] μ10
    have hpl : μ10 5 2 = a4 := by rw [eμ10, jm_off1 (by decide)]; exact p4
    refine jv_isub rfl rfl ⟨by omega, by omega⟩ ?_
    refine jv_ireturn rfl (Or.inl rfl) ?_
    refine ⟨_, rfl, ?_⟩
    have c1 : ∀ z, (z ≠ 0 ∧ z ≠ 5 ∧ (z < 24 ∨ z = 25 ∨ z = 26 ∨ 40 < z)) → μ10 z = μ z := fun z q => by rw [eμ10, jm_off1 q.1, f4 z (by omega)]
    have c94 : μ10 94 = μ 94 := c1 94 (by omega)
    have c100 : μ10 100 = μ 100 := c1 100 (by omega)
    have hN1 : μ10 94 8 = μ 94 8 := by rw [c94]
    have hG1 : ∀ j, 0 ≤ j → j < μ 94 8 → μ10 100 j = (fun j => μ 100 j) j ∧ 0 ≤ (fun j => μ 100 j) j ∧ (fun j => μ 100 j) j ≤ 255 := fun j j0 j1 => by rw [c100]; exact ⟨rfl, (ht2 j j0 j1).2⟩
    refine jv_enter (d := 199) jm_p_X10_hotel [some (.inr (.inr 94)), none] rfl rfl rfl (Nat.le_of_ble_eq_true rfl) rfl rfl ?_
    refine jv_aload_n rfl rfl rfl (by decide) ?_
    refine jv_callV0 rfl rfl rfl rfl ⟨by decide, rfl⟩ (Nat.le_of_ble_eq_true rfl) (mo_reads (g := (fun j => μ 100 j)) hN1 ht1 hG1 (fun a1 T1 ν1 e1 t1_ f1 => ?_) (fun w1_ a1 ν1 e1 h1_ f1 p1 q1 => ?_))
    · first
      | (exfalso; omega)
      | skip
        exfalso
        rw [e4] at e1
        exact h4 (congrArg Prod.fst e1)
    · first
      | (exfalso; omega)
      | skip
        show jV _ _ jm_p_X10_hotel _ 2 [some (.inr (.inr 94)), none] [.inl 0] ν1
        refine jv_istore_nK (L2 := [some (.inr (.inr 94)), some (.inl 0)]) rfl rfl rfl ?_
        refine jv_aload_n rfl rfl rfl (by decide) ?_
        refine jv_iconst rfl rfl ?_
        refine jv_puti rfl rfl rfl ⟨by decide, rfl⟩ (Or.inl rfl) (fun ν5 eν5 => ?_)
        refine jv_iload_n rfl rfl rfl ?_
        refine jv_if_neF rfl rfl (by decide) ?_
        refine jv_aload_n rfl rfl rfl (by decide) ?_
        refine jv_aload_n rfl rfl rfl (by decide) ?_
        refine jv_geti rfl rfl rfl ⟨by decide, rfl⟩ (by decide) ?_
        refine jv_puti rfl rfl rfl ⟨by decide, rfl⟩ (Or.inl rfl) (fun ν11 eν11 => ?_)
        refine jv_ldc rfl rfl ?_
        refine jv_aload_n rfl rfl rfl (by decide) ?_
        refine jv_geti rfl rfl rfl ⟨by decide, rfl⟩ (by decide) ?_
        have ra1 := jpA_r ht1.1 e1
        have hp13 : ν11 94 13 = a1 := by
          rw [eν11, jm_uc_self]
          show ν5 94 13 = a1
          rw [eν5, jm_uc_self]
          exact p1
        refine jv_isub rfl rfl ⟨by omega, by omega⟩ ?_
        refine jv_ireturn rfl (Or.inl rfl) ?_
        rw [e4] at e1
        have ew : w4 = w1_ := congrArg Prod.fst e1
        have ea : a4 = a1 := congrArg (fun q => q.2.1) e1
        have z94 : ∀ j, j ≠ 8 → j ≠ 9 → ν11 94 j = ν1 94 j := fun j p q => by
          rw [eν11, jm_uc_self]
          unfold jm_u1
          rw [if_neg q, eν5, jm_uc_self]
          unfold jm_u1
          rw [if_neg p]
        have y13 : ν5 94 13 = ν1 94 13 := by rw [eν5, jm_uc_self]; rfl
        have y14 : ν5 94 14 = ν1 94 14 := by rw [eν5, jm_uc_self]; rfl
        have x13 : ν11 94 13 = ν1 94 13 := z94 13 (by decide) (by decide)
        have zz : ∀ z, z ≠ 94 → ν11 z = ν1 z := fun z p => by rw [eν11, jm_off1 p, eν5, jm_off1 p]
        have zq : ∀ j, j ≠ 8 → j ≠ 9 → j ≠ 13 → j ≠ 14 → j ≠ 15 → ν11 94 j = μ 94 j := fun j p q r s u => by rw [z94 j p q, f1.2.1 j r s u, c94]
        have b52 : μ10 5 2 = μ4 5 2 := by rw [eμ10, jm_off1 (by decide)]
        have ze0 : ν11 0 = μ10 0 := by rw [zz 0 (by decide), f1.1 0 (by decide) (by decide)]
        refine ⟨jv_one (by omega), jI_fail hI (fun z q => by rw [zz z (by omega), f1.1 z (by omega) (by omega)]; exact c1 z (by omega)) (fun j q => by rw [zz 95 (by decide), f1.2.2 j q, c1 95 (by omega)]) (zq 1 (by decide) (by decide) (by decide) (by decide) (by decide)) (zq 2 (by decide) (by decide) (by decide) (by decide) (by decide)) (zq 12 (by decide) (by decide) (by decide) (by decide) (by decide)) ?_ ?_ ?_ ?_⟩
        · rw [ze0, zq 10 (by decide) (by decide) (by decide) (by decide) (by decide), eμ10, jm_uc_self]
          show μ4 0 11 = _
          rw [f4 0 (by omega)]
          exact hst
        · have y9 : ν11 94 9 = ν5 94 14 := by rw [eν11, jm_uc_self]; rfl
          have y10 : μ10 0 10 = w4 := by rw [eμ10, jm_uc_self]; exact hx1
          rw [ze0, y9, y14, y10]
          omega
        · rw [zz 5 (by decide), f1.1 5 (by decide) (by decide), eμ10, jm_off1 (by decide)]
          exact z4
        · rw [eν11, jm_uc_self]
          show ν5 94 8 = 0
          rw [eν5]
          rfl
theorem jp_every {len : Nat} {sc : Int → Int} : jp_all len sc := ⟨fun _ _ _ r0 r1 r2 => pr_row r0 r1 r2, fun _ _ _ r0 r1 r2 => pr_set r0 r1 r2, fun _ _ _ _ _ r0 r1 r2 r3 r4 => pr_copy r0 r1 r2 r3 r4, fun _ r0 => pr_drop r0, fun _ r0 => pr_feed r0, pr_hotel, pr_fault, fun _ r0 => pr_come r0, fun _ r0 => pr_beat r0, fun _ r0 => pr_change r0, fun _ r0 => pr_rain r0, pr_undo, fun _ _ r0 r1 => pr_comer r0 r1, fun _ _ r0 r1 => pr_mat r0 r1, fun _ _ r0 r1 => pr_soil r0 r1, fun _ _ r0 r1 => pr_atOne r0 r1, fun _ _ r0 r1 => pr_leaves r0 r1, fun _ r0 => pr_carries r0, pr_clean, fun _ r0 => pr_order r0, fun _ r0 => pr_laying r0, fun _ _ _ r0 r1 r2 => pr_beating r0 r1 r2, fun _ r0 => pr_pacts r0, fun _ _ r0 r1 => pr_could r0 r1, fun _ _ r0 r1 => pr_who r0 r1, fun _ _ _ _ r0 r1 r2 r3 => pr_fits r0 r1 r2 r3, fun _ _ _ r0 r1 r2 => pr_absent r0 r1 r2, fun _ _ _ r0 r1 r2 => pr_drawn r0 r1 r2, fun _ r0 => pr_image r0, fun _ r0 => pr_restore r0, fun _ r0 => pr_kind r0, fun _ _ r0 r1 => pr_as r0 r1, fun _ _ r0 r1 => pr_ask r0 r1, fun _ r0 => pr_trace r0, fun _ r0 => pr_count r0, pr_status⟩
