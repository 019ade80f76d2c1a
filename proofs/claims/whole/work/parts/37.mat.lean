/-- b is the first of the greatest among the first n -/
def jz_top (s : Int → Int) (b n : Int) : Prop := (0 ≤ b ∧ b < n) ∧ ∀ j, 0 ≤ j → j < n → s j ≤ s b ∧ (j < b → s j < s b)
def jz_mst (s : Int → Int) (v : Int) : Prop := (v = -1000000 ∧ ∀ j, 0 ≤ j → j < 6 → s j ≤ 0) ∨ (0 < s v ∧ jz_top s v 6)
theorem jz_mst_one {s t : Int → Int} {v u : Int} (h : ∀ j, 0 ≤ j → j < 6 → s j = t j) (h1 : jz_mst s v) (h2 : jz_mst t u) : v = u := by
  rcases h1 with ⟨e1, a1⟩ | ⟨e1, a1, b1⟩ <;> rcases h2 with ⟨e2, a2⟩ | ⟨e2, a2, b2⟩
  · omega
  · exfalso
    have q1 := a1 u a2.1 a2.2
    have q2 := h u a2.1 a2.2
    omega
  · exfalso
    have q1 := a2 v a1.1 a1.2
    have q2 := h v a1.1 a1.2
    omega
  · have p1 := b1 u a2.1 a2.2
    have p2 := b2 v a1.1 a1.2
    have q1 := h v a1.1 a1.2
    have q2 := h u a2.1 a2.2
    rcases Int.lt_trichotomy v u with g | g | g
    · have := p2.2 g
      omega
    · exact g
    · have := p1.2 g
      omega
set_option maxRecDepth 10000 in
theorem cl_master_l {X : jm_X} {d : Nat} {Q : jv_P} {μ : jm_M} {z : Int} (hz : jz_mat z) (k : ∀ v, jz_mst (μ (z + 1)) v → Q [.inl v] μ) : ∀ (c : Nat) (b w : Int), 1 ≤ w → w ≤ 6 → 6 - w < c → jz_top (μ (z + 1)) b w → jV X d jm_p_X5_master Q 4 [some (.inr (.inr z)), some (.inl b), some (.inl w)] [] μ := by
  intro c
  induction c with
  | zero => intro b w x0 x1 xn ht; exfalso; omega
  | succ c ih =>
    intro b w x0 x1 xn ht
    have hb0 := ht.1
    refine jv_iload_n rfl rfl rfl ?_
    refine jv_bipush rfl rfl ?_
    refine jv_icmp_ge rfl rfl rfl (fun c6 => ?_) (fun c6 => ?_)
    · refine jv_aload_n rfl rfl rfl (by have := hz.2.2; omega) ?_
      refine jv_getr (w := (z + 1)) rfl rfl hz.1 ⟨hz.2.2.1, rfl⟩ rfl rfl ?_
      refine jv_iload_n rfl rfl rfl ?_
      refine jv_iaload rfl rfl (by have := hz.2.2; omega) hz.2.1 ⟨by omega, by omega⟩ ?_
      refine jv_if_le rfl rfl rfl (fun c24 => ?_) (fun c24 => ?_)
      · refine jv_ldc rfl rfl ?_
        refine jv_ireturn rfl (Or.inl rfl) ?_
        have hw : w = 6 := by omega
        rw [hw] at ht
        refine k _ ?_
        first
        | exact Or.inr ⟨by omega, ht⟩
        | exact Or.inl ⟨rfl, fun j j0 j1 => by have q1 := (ht.2 j j0 j1).1; omega⟩
      · refine jv_iload_n rfl rfl rfl ?_
        refine jv_goto rfl rfl ?_
        refine jv_ireturn rfl (Or.inl rfl) ?_
        have hw : w = 6 := by omega
        rw [hw] at ht
        refine k _ ?_
        first
        | exact Or.inr ⟨by omega, ht⟩
        | exact Or.inl ⟨rfl, fun j j0 j1 => by have q1 := (ht.2 j j0 j1).1; omega⟩
    · refine jv_aload_n rfl rfl rfl (by have := hz.2.2; omega) ?_
      refine jv_getr (w := (z + 1)) rfl rfl hz.1 ⟨hz.2.2.1, rfl⟩ rfl rfl ?_
      refine jv_iload_n rfl rfl rfl ?_
      refine jv_iaload rfl rfl (by have := hz.2.2; omega) hz.2.1 ⟨by omega, by omega⟩ ?_
      refine jv_aload_n rfl rfl rfl (by have := hz.2.2; omega) ?_
      refine jv_getr (w := (z + 1)) rfl rfl hz.1 ⟨hz.2.2.1, rfl⟩ rfl rfl ?_
      refine jv_iload_n rfl rfl rfl ?_
      refine jv_iaload rfl rfl (by have := hz.2.2; omega) hz.2.1 ⟨by omega, by omega⟩ ?_
      refine jv_icmp_le rfl rfl rfl (fun c15 => ?_) (fun c15 => ?_)
      · refine jv_iinc (fun x => [some (.inr (.inr z)), some (.inl b), some (.inl x)]) rfl rfl rfl ⟨by omega, by omega⟩ (fun _ => rfl) (fun x2_18 ex2_18 => ?_)
        refine jv_goto rfl rfl ?_
        refine ih b x2_18 (by omega) (by omega) (by omega) ?_
        rw [ex2_18]
        refine ⟨by omega, fun j j0 j1 => ?_⟩
        by_cases hj : j < w
        · have q1 := (ht.2 j j0 hj).1
          have q2 := (ht.2 j j0 hj).2
          refine ⟨by omega, fun q => ?_⟩
          first
          | omega
          | exact q2 q
        · have e : j = w := by omega
          rw [e]
          exact ⟨by omega, fun q => by omega⟩
      · refine jv_iload_n rfl rfl rfl ?_
        refine jv_istore_n (fun x => [some (.inr (.inr z)), some (.inl x), some (.inl w)]) rfl rfl (fun _ => rfl) (fun x1_17 ex1_17 => ?_)
        refine jv_iinc (fun x => [some (.inr (.inr z)), some (.inl x1_17), some (.inl x)]) rfl rfl rfl ⟨by omega, by omega⟩ (fun _ => rfl) (fun x2_18_1 ex2_18_1 => ?_)
        refine jv_goto rfl rfl ?_
        refine ih x1_17 x2_18_1 (by omega) (by omega) (by omega) ?_
        rw [ex1_17, ex2_18_1]
        refine ⟨by omega, fun j j0 j1 => ?_⟩
        by_cases hj : j < w
        · have q1 := (ht.2 j j0 hj).1
          have q2 := (ht.2 j j0 hj).2
          refine ⟨by omega, fun q => ?_⟩
          first
          | omega
          | exact q2 q
        · have e : j = w := by omega
          rw [e]
          exact ⟨by omega, fun q => by omega⟩
set_option maxRecDepth 10000 in
theorem cl_master {X : jm_X} {d : Nat} {Q : jv_P} {μ : jm_M} {z : Int} (hz : jz_mat z) (k : ∀ v, jz_mst (μ (z + 1)) v → Q [.inl v] μ) : cV X (d + 1) 53 [.inr (.inr z)] μ Q := by
  refine jv_enter (d := d + 0) jm_p_X5_master [some (.inr (.inr z)), none, none] rfl rfl rfl (Nat.le_of_ble_eq_true rfl) rfl rfl ?_
  refine jv_iconst rfl rfl ?_
  refine jv_istore_nK (L2 := [some (.inr (.inr z)), some (.inl 0), none]) rfl rfl rfl ?_
  refine jv_iconst rfl rfl ?_
  refine jv_istore_nK (L2 := [some (.inr (.inr z)), some (.inl 0), some (.inl 1)]) rfl rfl rfl ?_
  refine cl_master_l hz k 6 0 1 (by omega) (by omega) (by omega) ⟨by omega, fun j j0 j1 => ?_⟩
  have e : j = 0 := by omega
  rw [e]
  exact ⟨by omega, fun q => by omega⟩
set_option maxRecDepth 10000 in
theorem mo_masterOf_l {X : jm_X} {d : Nat} {Q : jv_P} {μ : jm_M} {m : Int} {s : Int → Int} (hm : 0 ≤ m ∧ m < 4) (hs : ∀ j, s j = μ 95 (8 + 6 * m + j)) (k : ∀ v, jz_mst s v → Q [.inl v] μ) : ∀ (c : Nat) (b mo w : Int) (o5 : Option jm_V), 0 ≤ w → w ≤ 6 → 6 - w < c → ((b = -1000000 ∧ mo = 0 ∧ ∀ j, 0 ≤ j → j < w → s j ≤ 0) ∨ (0 < s b ∧ mo = s b ∧ jz_top s b w)) → jV X d jm_p_X10_masterOf Q 6 [some (.inr (.inr 94)), some (.inl m), some (.inl b), some (.inl mo), some (.inl w), o5] [] μ := by
  intro c
  induction c with
  | zero => intro b mo w o5 x0 x1 xn hv; exfalso; omega
  | succ c ih =>
    intro b mo w o5 x0 x1 xn hv
    have hsw := hs w
    refine jv_iload rfl rfl rfl ?_
    refine jv_bipush rfl rfl ?_
    refine jv_icmp_ge rfl rfl rfl (fun c8 => ?_) (fun c8 => ?_)
    · refine jv_iload_n rfl rfl rfl ?_
      refine jv_ireturn rfl (Or.inl rfl) ?_
      have hw : w = 6 := by omega
      rw [hw] at hv
      refine k _ ?_
      rcases hv with ⟨e1, e2, h3⟩ | ⟨e1, e2, h3⟩
      · exact Or.inl ⟨e1, h3⟩
      · exact Or.inr ⟨e1, h3⟩
    · refine jv_aload_n rfl rfl rfl (by decide) ?_
      refine jv_getr (w := 95) rfl rfl rfl ⟨by decide, rfl⟩ rfl rfl ?_
      refine jv_bipush rfl rfl ?_
      refine jv_bipush rfl rfl ?_
      refine jv_iload_n rfl rfl rfl ?_
      refine jv_imul rfl rfl ⟨by omega, by omega⟩ ?_
      refine jv_iadd rfl rfl ⟨by omega, by omega⟩ ?_
      refine jv_iload rfl rfl rfl ?_
      refine jv_iadd rfl rfl ⟨by omega, by omega⟩ ?_
      refine jv_iaload rfl rfl (by decide) rfl ⟨by omega, by omega⟩ ?_
      refine jv_iload_n rfl rfl rfl ?_
      refine jv_icmp_le rfl rfl rfl (fun c20 => ?_) (fun c20 => ?_)
      · refine jv_iconst rfl rfl ?_
        refine jv_istoreK (L2 := [some (.inr (.inr 94)), some (.inl m), some (.inl b), some (.inl mo), some (.inl w), some (.inl 0)]) rfl rfl rfl ?_
        refine jv_iload rfl rfl rfl ?_
        refine jv_if_eqT rfl rfl (by decide) ?_
        refine jv_iload_n rfl rfl rfl ?_
        refine jv_istore_n (fun x => [some (.inr (.inr 94)), some (.inl m), some (.inl x), some (.inl mo), some (.inl w), some (.inl 0)]) rfl rfl (fun _ => rfl) (fun x2_30 ex2_30 => ?_)
        refine jv_iload rfl rfl rfl ?_
        refine jv_if_eqT rfl rfl (by decide) ?_
        refine jv_iload_n rfl rfl rfl ?_
        refine jv_istore_n (fun x => [some (.inr (.inr 94)), some (.inl m), some (.inl x2_30), some (.inl x), some (.inl w), some (.inl 0)]) rfl rfl (fun _ => rfl) (fun x3_45 ex3_45 => ?_)
        refine jv_iinc (fun x => [some (.inr (.inr 94)), some (.inl m), some (.inl x2_30), some (.inl x3_45), some (.inl x), some (.inl 0)]) rfl rfl rfl ⟨by omega, by omega⟩ (fun _ => rfl) (fun x4_46 ex4_46 => ?_)
        refine jv_goto rfl rfl ?_
        refine ih x2_30 x3_45 x4_46 _ (by omega) (by omega) (by omega) ?_
        rw [ex2_30, ex3_45, ex4_46]
        rcases hv with ⟨e1, e2, h3⟩ | ⟨e1, e2, h3⟩
        · first
          | exact Or.inl ⟨e1, e2, fun j j0 j1 => by
              by_cases hj : j < w
              · exact h3 j j0 hj
              · have e : j = w := by omega
                rw [e]
                omega⟩
          | exact Or.inr ⟨by omega, by omega, ⟨by omega, by omega⟩, fun j j0 j1 => by
              by_cases hj : j < w
              · have q1 := h3 j j0 hj
                exact ⟨by omega, fun q => by omega⟩
              · have e : j = w := by omega
                rw [e]
                exact ⟨by omega, fun q => by omega⟩⟩
        · have hb0 := h3.1
          first
          | exact Or.inr ⟨e1, e2, ⟨by omega, by omega⟩, fun j j0 j1 => by
              by_cases hj : j < w
              · exact h3.2 j j0 hj
              · have e : j = w := by omega
                rw [e]
                exact ⟨by omega, fun q => by omega⟩⟩
          | exact Or.inr ⟨by omega, by omega, ⟨by omega, by omega⟩, fun j j0 j1 => by
              by_cases hj : j < w
              · have q1 := (h3.2 j j0 hj).1
                exact ⟨by omega, fun q => by omega⟩
              · have e : j = w := by omega
                rw [e]
                exact ⟨by omega, fun q => by omega⟩⟩
      · refine jv_iconst rfl rfl ?_
        refine jv_goto rfl rfl ?_
        refine jv_istoreK (L2 := [some (.inr (.inr 94)), some (.inl m), some (.inl b), some (.inl mo), some (.inl w), some (.inl 1)]) rfl rfl rfl ?_
        refine jv_iload rfl rfl rfl ?_
        refine jv_if_eqF rfl rfl (by decide) ?_
        refine jv_iload rfl rfl rfl ?_
        refine jv_goto rfl rfl ?_
        refine jv_istore_n (fun x => [some (.inr (.inr 94)), some (.inl m), some (.inl x), some (.inl mo), some (.inl w), some (.inl 1)]) rfl rfl (fun _ => rfl) (fun x2_30_1 ex2_30_1 => ?_)
        refine jv_iload rfl rfl rfl ?_
        refine jv_if_eqF rfl rfl (by decide) ?_
        refine jv_aload_n rfl rfl rfl (by decide) ?_
        refine jv_getr (w := 95) rfl rfl rfl ⟨by decide, rfl⟩ rfl rfl ?_
        refine jv_bipush rfl rfl ?_
        refine jv_bipush rfl rfl ?_
        refine jv_iload_n rfl rfl rfl ?_
        refine jv_imul rfl rfl ⟨by omega, by omega⟩ ?_
        refine jv_iadd rfl rfl ⟨by omega, by omega⟩ ?_
        refine jv_iload rfl rfl rfl ?_
        refine jv_iadd rfl rfl ⟨by omega, by omega⟩ ?_
        refine jv_iaload rfl rfl (by decide) rfl ⟨by omega, by omega⟩ ?_
        refine jv_goto rfl rfl ?_
        refine jv_istore_n (fun x => [some (.inr (.inr 94)), some (.inl m), some (.inl x2_30_1), some (.inl x), some (.inl w), some (.inl 1)]) rfl rfl (fun _ => rfl) (fun x3_45_1 ex3_45_1 => ?_)
        refine jv_iinc (fun x => [some (.inr (.inr 94)), some (.inl m), some (.inl x2_30_1), some (.inl x3_45_1), some (.inl x), some (.inl 1)]) rfl rfl rfl ⟨by omega, by omega⟩ (fun _ => rfl) (fun x4_46_1 ex4_46_1 => ?_)
        refine jv_goto rfl rfl ?_
        refine ih x2_30_1 x3_45_1 x4_46_1 _ (by omega) (by omega) (by omega) ?_
        rw [ex2_30_1, ex3_45_1, ex4_46_1]
        rcases hv with ⟨e1, e2, h3⟩ | ⟨e1, e2, h3⟩
        · first
          | exact Or.inl ⟨e1, e2, fun j j0 j1 => by
              by_cases hj : j < w
              · exact h3 j j0 hj
              · have e : j = w := by omega
                rw [e]
                omega⟩
          | exact Or.inr ⟨by omega, by omega, ⟨by omega, by omega⟩, fun j j0 j1 => by
              by_cases hj : j < w
              · have q1 := h3 j j0 hj
                exact ⟨by omega, fun q => by omega⟩
              · have e : j = w := by omega
                rw [e]
                exact ⟨by omega, fun q => by omega⟩⟩
        · have hb0 := h3.1
          first
          | exact Or.inr ⟨e1, e2, ⟨by omega, by omega⟩, fun j j0 j1 => by
              by_cases hj : j < w
              · exact h3.2 j j0 hj
              · have e : j = w := by omega
                rw [e]
                exact ⟨by omega, fun q => by omega⟩⟩
          | exact Or.inr ⟨by omega, by omega, ⟨by omega, by omega⟩, fun j j0 j1 => by
              by_cases hj : j < w
              · have q1 := (h3.2 j j0 hj).1
                exact ⟨by omega, fun q => by omega⟩
              · have e : j = w := by omega
                rw [e]
                exact ⟨by omega, fun q => by omega⟩⟩
set_option maxRecDepth 10000 in
theorem mo_masterOf {X : jm_X} {d : Nat} {Q : jv_P} {μ : jm_M} {m : Int} {s : Int → Int} (hm : 0 ≤ m ∧ m < 4) (hs : ∀ j, s j = μ 95 (8 + 6 * m + j)) (k : ∀ v, jz_mst s v → Q [.inl v] μ) : cV X (d + 1) 178 [.inr (.inr 94), .inl m] μ Q := by
  refine jv_enter (d := d + 0) jm_p_X10_masterOf [some (.inr (.inr 94)), some (.inl m), none, none, none, none] rfl rfl rfl (Nat.le_of_ble_eq_true rfl) rfl rfl ?_
  refine jv_ldc rfl rfl ?_
  refine jv_istore_nK (L2 := [some (.inr (.inr 94)), some (.inl m), some (.inl (-1000000)), none, none, none]) rfl rfl rfl ?_
  refine jv_iconst rfl rfl ?_
  refine jv_istore_nK (L2 := [some (.inr (.inr 94)), some (.inl m), some (.inl (-1000000)), some (.inl 0), none, none]) rfl rfl rfl ?_
  refine jv_iconst rfl rfl ?_
  refine jv_istoreK (L2 := [some (.inr (.inr 94)), some (.inl m), some (.inl (-1000000)), some (.inl 0), some (.inl 0), none]) rfl rfl rfl ?_
  exact mo_masterOf_l hm hs k 7 (-1000000) 0 0 _ (by omega) (by omega) (by omega) (Or.inl ⟨rfl, rfl, fun j j0 j1 => by exfalso; omega⟩)
set_option maxRecDepth 10000 in
set_option maxHeartbeats 1000000 in
theorem pr_mat {X : jm_X} {m : Int} {w : Int} (r_m : jm_r m) (r_w : jm_r w) : jp X 101 179 [.inl m, .inl w] := by
  intro μ hI
  obtain ⟨⟨hit, hlan⟩, ⟨ht0, ht1, ht2⟩, ⟨hr0, hr1, hr2⟩, ⟨hst, hfa⟩, htown, hidle, himg, hpast⟩ := id hI
  obtain ⟨hwf, hcf, hkd, hmat, hrel, hh01, hhot, hnc⟩ := id htown
  obtain ⟨⟨r0, r1, r2, r3⟩, rm, rz, rc⟩ := id hrel
  obtain ⟨w0, w1, w2, w3, w4, w6, w7, w8⟩ := id hwf
  have hrm : ∀ m, 0 ≤ m → m < μ 95 0 → μ (μ 8 m) 0 = μ 95 (4 + m) ∧ ∀ k, 0 ≤ k → k < 6 → μ (μ 8 m + 1) k = μ 95 (8 + 6 * m + k) := fun m a b => rm m a b
  have hly : ∀ m, 0 ≤ m → m < μ 95 0 → ∀ k, 0 ≤ k → k < 6 → 0 ≤ μ (μ 8 m + 1) k ∧ μ (μ 8 m + 1) k ≤ 60 := fun m a b k p q => by rw [(hrm m a b).2 k p q]; exact w6 (8 + 6 * m + k) (by omega) (by omega)
  have hwf0 : jt_wf (fun k => μ 95 (0 + k)) := jt_wf_congr (fun k k0 k1 => by show μ 95 k = μ 95 (0 + k); rw [Int.zero_add]) hwf
  have hl0 : jt_lies (fun k => μ 95 (0 + k)) m = μ 95 (8 + 6 * m) + μ 95 (8 + 6 * m + 1) + μ 95 (8 + 6 * m + 2) + μ 95 (8 + 6 * m + 3) + μ 95 (8 + 6 * m + 4) + μ 95 (8 + 6 * m + 5) := by unfold jt_lies; simp only [Int.zero_add]
  have g0 : 0 ≤ m → m < μ 95 0 → (0 ≤ μ (μ 8 m + 1) 0 ∧ μ (μ 8 m + 1) 0 ≤ 60) ∧ μ (μ 8 m + 1) 0 = μ 95 (8 + 6 * m) := fun a b => ⟨hly m a b 0 (by decide) (by decide), by have q := (hrm m a b).2 0 (by decide) (by decide); rw [Int.add_zero] at q; exact q⟩
  have g1 : 0 ≤ m → m < μ 95 0 → (0 ≤ μ (μ 8 m + 1) 1 ∧ μ (μ 8 m + 1) 1 ≤ 60) ∧ μ (μ 8 m + 1) 1 = μ 95 (8 + 6 * m + 1) := fun a b => ⟨hly m a b 1 (by decide) (by decide), by have q := (hrm m a b).2 1 (by decide) (by decide); exact q⟩
  have g2 : 0 ≤ m → m < μ 95 0 → (0 ≤ μ (μ 8 m + 1) 2 ∧ μ (μ 8 m + 1) 2 ≤ 60) ∧ μ (μ 8 m + 1) 2 = μ 95 (8 + 6 * m + 2) := fun a b => ⟨hly m a b 2 (by decide) (by decide), by have q := (hrm m a b).2 2 (by decide) (by decide); exact q⟩
  have g3 : 0 ≤ m → m < μ 95 0 → (0 ≤ μ (μ 8 m + 1) 3 ∧ μ (μ 8 m + 1) 3 ≤ 60) ∧ μ (μ 8 m + 1) 3 = μ 95 (8 + 6 * m + 3) := fun a b => ⟨hly m a b 3 (by decide) (by decide), by have q := (hrm m a b).2 3 (by decide) (by decide); exact q⟩
  have g4 : 0 ≤ m → m < μ 95 0 → (0 ≤ μ (μ 8 m + 1) 4 ∧ μ (μ 8 m + 1) 4 ≤ 60) ∧ μ (μ 8 m + 1) 4 = μ 95 (8 + 6 * m + 4) := fun a b => ⟨hly m a b 4 (by decide) (by decide), by have q := (hrm m a b).2 4 (by decide) (by decide); exact q⟩
  have g5 : 0 ≤ m → m < μ 95 0 → (0 ≤ μ (μ 8 m + 1) 5 ∧ μ (μ 8 m + 1) 5 ≤ 60) ∧ μ (μ 8 m + 1) 5 = μ 95 (8 + 6 * m + 5) := fun a b => ⟨hly m a b 5 (by decide) (by decide), by have q := (hrm m a b).2 5 (by decide) (by decide); exact q⟩
  have hp8 : 0 ≤ m → m < μ 95 0 → 0 ≤ μ 8 m := fun a b => (jz_mat7 hmat (m := m) (by omega) (by omega)).2.2.1
  refine jv_enter (d := 199) jm_p_X9_mat [some (.inr (.inr 0)), some (.inl m), some (.inl w), none] rfl rfl rfl (Nat.le_of_ble_eq_true rfl) rfl rfl ?_
  refine jv_aload_n rfl rfl rfl (by decide) ?_
  refine jv_iload_n rfl rfl rfl ?_
  refine jv_callV1 rfl rfl rfl rfl ⟨by decide, rfl⟩ (Nat.le_of_ble_eq_true rfl) (cl_noMat (fun b2 => ?_) (fun b2 => ?_))
  · show jV _ _ jm_p_X9_mat _ 3 [some (.inr (.inr 0)), some (.inl m), some (.inl w), none] [.inl 1] μ
    refine jv_if_eqF rfl rfl (by decide) ?_
    refine jv_ldc rfl rfl ?_
    refine jv_ireturn rfl (Or.inl rfl) ?_
    refine ⟨_, rfl, ?_⟩
    refine jv_enter (d := 199) jm_p_X10_mat [some (.inr (.inr 94)), some (.inl m), some (.inl w)] rfl rfl rfl (Nat.le_of_ble_eq_true rfl) rfl rfl ?_
    refine jv_aload_n rfl rfl rfl (by decide) ?_
    refine jv_iload_n rfl rfl rfl ?_
    refine jv_callV1 rfl rfl rfl rfl ⟨by decide, rfl⟩ (Nat.le_of_ble_eq_true rfl) (mo_isMat (by omega) (fun b2 => ?_) (fun b2 => ?_))
    · first
      | (exfalso; omega)
      | skip
        show jV _ _ jm_p_X10_mat _ 3 [some (.inr (.inr 94)), some (.inl m), some (.inl w)] [.inl 1] μ
        refine jv_if_neT rfl rfl (by decide) ?_
        refine jv_iload_n rfl rfl rfl ?_
        refine jv_tsw rfl (And.intro (fun s7 => ?_) (fun ns7_3 => (And.intro (fun s7 => ?_) (fun ns7_2 => (And.intro (fun s7 => ?_) (fun ns7_1 => (And.intro (fun s7 => ?_) (fun ns7 => (jm_sw_1 ?_)))))))))
        · first
          | (exfalso; omega)
          | skip
            refine jv_aload_n rfl rfl rfl (by decide) ?_
            refine jv_getr (w := 95) rfl rfl rfl ⟨by decide, rfl⟩ rfl rfl ?_
            refine jv_iconst rfl rfl ?_
            refine jv_iload_n rfl rfl rfl ?_
            refine jv_iadd rfl rfl ⟨by omega, by omega⟩ ?_
            refine jv_iaload rfl rfl (by decide) rfl ⟨by omega, by omega⟩ ?_
            refine jv_ireturn rfl (Or.inl rfl) ?_
            exact ⟨jv_one (by have h9 := fun a b => (hrm m a b).1; omega), hI⟩
        · first
          | (exfalso; omega)
          | skip
            refine jv_aload_n rfl rfl rfl (by decide) ?_
            refine jv_iconst rfl rfl ?_
            refine jv_iload_n rfl rfl rfl ?_
            refine jv_callV2 rfl rfl rfl rfl ⟨by decide, rfl⟩ (Nat.le_of_ble_eq_true rfl) (mo_liesOn (by omega) (by omega) hwf0 ?_)
            show jV _ _ jm_p_X10_mat _ 19 [some (.inr (.inr 94)), some (.inl m), some (.inl w)] [.inl (jt_lies (fun k => μ 95 (0 + k)) m)] μ
            refine jv_ireturn rfl (Or.inl rfl) ?_
            exact ⟨jv_one (by have h9 := fun a b => (hrm m a b).1; omega), hI⟩
        · first
          | (exfalso; omega)
          | skip
            refine jv_aload_n rfl rfl rfl (by decide) ?_
            refine jv_getr (w := 95) rfl rfl rfl ⟨by decide, rfl⟩ rfl rfl ?_
            refine jv_iconst rfl rfl ?_
            refine jv_iaload rfl rfl (by decide) rfl ⟨by omega, by omega⟩ ?_
            refine jv_aload_n rfl rfl rfl (by decide) ?_
            refine jv_iconst rfl rfl ?_
            refine jv_iload_n rfl rfl rfl ?_
            refine jv_callV2 rfl rfl rfl rfl ⟨by decide, rfl⟩ (Nat.le_of_ble_eq_true rfl) (mo_liesOn (by omega) (by omega) hwf0 ?_)
            show jV _ _ jm_p_X10_mat _ 28 [some (.inr (.inr 94)), some (.inl m), some (.inl w)] [.inl (jt_lies (fun k => μ 95 (0 + k)) m), .inl (μ 95 2)] μ
            refine jv_isub rfl rfl ⟨by omega, by omega⟩ ?_
            refine jv_ireturn rfl (Or.inl rfl) ?_
            exact ⟨jv_one (by have h9 := fun a b => (hrm m a b).1; omega), hI⟩
        · first
          | (exfalso; omega)
          | skip
            refine jv_aload_n rfl rfl rfl (by decide) ?_
            refine jv_iload_n rfl rfl rfl ?_
            refine jv_callV1 rfl rfl rfl rfl ⟨by decide, rfl⟩ (Nat.le_of_ble_eq_true rfl) (mo_masterOf (s := fun j => μ 95 (8 + 6 * m + j)) (by omega) (fun _ => rfl) (fun r32 hr32 => ?_))
            show jV _ _ jm_p_X10_mat _ 33 [some (.inr (.inr 94)), some (.inl m), some (.inl w)] [.inl r32] μ
            refine jv_ireturn rfl (Or.inl rfl) ?_
            exact ⟨jv_one (by have h9 := fun a b => (hrm m a b).1; omega), hI⟩
        · first
          | (exfalso; omega)
          | skip
            show jV _ _ jm_p_X10_mat _ 34 [some (.inr (.inr 94)), some (.inl m), some (.inl w)] [] μ
            refine jv_ldc rfl rfl ?_
            refine jv_ireturn rfl (Or.inl rfl) ?_
            exact ⟨jv_one (by have h9 := fun a b => (hrm m a b).1; omega), hI⟩
    · first
      | (exfalso; omega)
      | skip
        show jV _ _ jm_p_X10_mat _ 3 [some (.inr (.inr 94)), some (.inl m), some (.inl w)] [.inl 0] μ
        refine jv_if_neF rfl rfl (by decide) ?_
        refine jv_ldc rfl rfl ?_
        refine jv_ireturn rfl (Or.inl rfl) ?_
        exact ⟨jv_one (by have h9 := fun a b => (hrm m a b).1; omega), hI⟩
  · show jV _ _ jm_p_X9_mat _ 3 [some (.inr (.inr 0)), some (.inl m), some (.inl w), none] [.inl 0] μ
    refine jv_if_eqT rfl rfl (by decide) ?_
    refine jv_aload_n rfl rfl rfl (by decide) ?_
    refine jv_getr (w := 7) rfl rfl rfl ⟨by decide, rfl⟩ rfl rfl ?_
    refine jv_getr (w := 8) rfl rfl rfl ⟨by decide, rfl⟩ rfl rfl ?_
    refine jv_iload_n rfl rfl rfl ?_
    refine jv_aaload rfl rfl rfl ⟨by decide, by decide, by decide⟩ ⟨by omega, by omega⟩ ?_
    refine jv_astore_n (L2 := [some (.inr (.inr 0)), some (.inl m), some (.inl w), some (.inr (.inr (μ 8 m)))]) rfl rfl (by omega) rfl ?_
    refine jv_iload_n rfl rfl rfl ?_
    refine jv_tsw rfl (And.intro (fun s13 => ?_) (fun ns13_3 => (And.intro (fun s13 => ?_) (fun ns13_2 => (And.intro (fun s13 => ?_) (fun ns13_1 => (And.intro (fun s13 => ?_) (fun ns13 => (jm_sw_1 ?_)))))))))
    · refine jv_aload_n rfl rfl rfl (by have := (jz_mat7 hmat (m := m) (by omega) (by omega)).2.2; omega) ?_
      refine jv_geti rfl rfl (jz_mat7 hmat (m := m) (by omega) (by omega)).1 ⟨(jz_mat7 hmat (m := m) (by omega) (by omega)).2.2.1, rfl⟩ (by decide) ?_
      refine jv_ireturn rfl (Or.inl rfl) ?_
      refine ⟨_, rfl, ?_⟩
      refine jv_enter (d := 199) jm_p_X10_mat [some (.inr (.inr 94)), some (.inl m), some (.inl w)] rfl rfl rfl (Nat.le_of_ble_eq_true rfl) rfl rfl ?_
      refine jv_aload_n rfl rfl rfl (by decide) ?_
      refine jv_iload_n rfl rfl rfl ?_
      refine jv_callV1 rfl rfl rfl rfl ⟨by decide, rfl⟩ (Nat.le_of_ble_eq_true rfl) (mo_isMat (by omega) (fun b2 => ?_) (fun b2 => ?_))
      · first
        | (exfalso; omega)
        | skip
          show jV _ _ jm_p_X10_mat _ 3 [some (.inr (.inr 94)), some (.inl m), some (.inl w)] [.inl 1] μ
          refine jv_if_neT rfl rfl (by decide) ?_
          refine jv_iload_n rfl rfl rfl ?_
          refine jv_tsw rfl (And.intro (fun s7 => ?_) (fun ns7_3 => (And.intro (fun s7 => ?_) (fun ns7_2 => (And.intro (fun s7 => ?_) (fun ns7_1 => (And.intro (fun s7 => ?_) (fun ns7 => (jm_sw_1 ?_)))))))))
          · first
            | (exfalso; omega)
            | skip
              refine jv_aload_n rfl rfl rfl (by decide) ?_
              refine jv_getr (w := 95) rfl rfl rfl ⟨by decide, rfl⟩ rfl rfl ?_
              refine jv_iconst rfl rfl ?_
              refine jv_iload_n rfl rfl rfl ?_
              refine jv_iadd rfl rfl ⟨by omega, by omega⟩ ?_
              refine jv_iaload rfl rfl (by decide) rfl ⟨by omega, by omega⟩ ?_
              refine jv_ireturn rfl (Or.inl rfl) ?_
              exact ⟨jv_one (by have h9 := fun a b => (hrm m a b).1; omega), hI⟩
          · first
            | (exfalso; omega)
            | skip
              refine jv_aload_n rfl rfl rfl (by decide) ?_
              refine jv_iconst rfl rfl ?_
              refine jv_iload_n rfl rfl rfl ?_
              refine jv_callV2 rfl rfl rfl rfl ⟨by decide, rfl⟩ (Nat.le_of_ble_eq_true rfl) (mo_liesOn (by omega) (by omega) hwf0 ?_)
              show jV _ _ jm_p_X10_mat _ 19 [some (.inr (.inr 94)), some (.inl m), some (.inl w)] [.inl (jt_lies (fun k => μ 95 (0 + k)) m)] μ
              refine jv_ireturn rfl (Or.inl rfl) ?_
              exact ⟨jv_one (by have h9 := fun a b => (hrm m a b).1; omega), hI⟩
          · first
            | (exfalso; omega)
            | skip
              refine jv_aload_n rfl rfl rfl (by decide) ?_
              refine jv_getr (w := 95) rfl rfl rfl ⟨by decide, rfl⟩ rfl rfl ?_
              refine jv_iconst rfl rfl ?_
              refine jv_iaload rfl rfl (by decide) rfl ⟨by omega, by omega⟩ ?_
              refine jv_aload_n rfl rfl rfl (by decide) ?_
              refine jv_iconst rfl rfl ?_
              refine jv_iload_n rfl rfl rfl ?_
              refine jv_callV2 rfl rfl rfl rfl ⟨by decide, rfl⟩ (Nat.le_of_ble_eq_true rfl) (mo_liesOn (by omega) (by omega) hwf0 ?_)
              show jV _ _ jm_p_X10_mat _ 28 [some (.inr (.inr 94)), some (.inl m), some (.inl w)] [.inl (jt_lies (fun k => μ 95 (0 + k)) m), .inl (μ 95 2)] μ
              refine jv_isub rfl rfl ⟨by omega, by omega⟩ ?_
              refine jv_ireturn rfl (Or.inl rfl) ?_
              exact ⟨jv_one (by have h9 := fun a b => (hrm m a b).1; omega), hI⟩
          · first
            | (exfalso; omega)
            | skip
              refine jv_aload_n rfl rfl rfl (by decide) ?_
              refine jv_iload_n rfl rfl rfl ?_
              refine jv_callV1 rfl rfl rfl rfl ⟨by decide, rfl⟩ (Nat.le_of_ble_eq_true rfl) (mo_masterOf (s := fun j => μ 95 (8 + 6 * m + j)) (by omega) (fun _ => rfl) (fun r32 hr32 => ?_))
              show jV _ _ jm_p_X10_mat _ 33 [some (.inr (.inr 94)), some (.inl m), some (.inl w)] [.inl r32] μ
              refine jv_ireturn rfl (Or.inl rfl) ?_
              exact ⟨jv_one (by have h9 := fun a b => (hrm m a b).1; omega), hI⟩
          · first
            | (exfalso; omega)
            | skip
              show jV _ _ jm_p_X10_mat _ 34 [some (.inr (.inr 94)), some (.inl m), some (.inl w)] [] μ
              refine jv_ldc rfl rfl ?_
              refine jv_ireturn rfl (Or.inl rfl) ?_
              exact ⟨jv_one (by have h9 := fun a b => (hrm m a b).1; omega), hI⟩
      · first
        | (exfalso; omega)
        | skip
          show jV _ _ jm_p_X10_mat _ 3 [some (.inr (.inr 94)), some (.inl m), some (.inl w)] [.inl 0] μ
          refine jv_if_neF rfl rfl (by decide) ?_
          refine jv_ldc rfl rfl ?_
          refine jv_ireturn rfl (Or.inl rfl) ?_
          exact ⟨jv_one (by have h9 := fun a b => (hrm m a b).1; omega), hI⟩
    · refine jv_aload_n rfl rfl rfl (by have := (jz_mat7 hmat (m := m) (by omega) (by omega)).2.2; omega) ?_
      refine jv_callV0 rfl rfl rfl (jz_mat7 hmat (m := m) (by omega) (by omega)).1 ⟨(jz_mat7 hmat (m := m) (by omega) (by omega)).2.2.1, rfl⟩ (Nat.le_of_ble_eq_true rfl) (cl_lying (jz_mat7 hmat (m := m) (by omega) (by omega)) (hly m (by omega) (by omega)) ?_)
      show jV _ _ jm_p_X9_mat _ 19 [some (.inr (.inr 0)), some (.inl m), some (.inl w), some (.inr (.inr (μ 8 m)))] [.inl (μ ((μ 8 m) + 1) 0 + μ ((μ 8 m) + 1) 1 + μ ((μ 8 m) + 1) 2 + μ ((μ 8 m) + 1) 3 + μ ((μ 8 m) + 1) 4 + μ ((μ 8 m) + 1) 5)] μ
      refine jv_ireturn rfl (Or.inl rfl) ?_
      refine ⟨_, rfl, ?_⟩
      refine jv_enter (d := 199) jm_p_X10_mat [some (.inr (.inr 94)), some (.inl m), some (.inl w)] rfl rfl rfl (Nat.le_of_ble_eq_true rfl) rfl rfl ?_
      refine jv_aload_n rfl rfl rfl (by decide) ?_
      refine jv_iload_n rfl rfl rfl ?_
      refine jv_callV1 rfl rfl rfl rfl ⟨by decide, rfl⟩ (Nat.le_of_ble_eq_true rfl) (mo_isMat (by omega) (fun b2 => ?_) (fun b2 => ?_))
      · first
        | (exfalso; omega)
        | skip
          show jV _ _ jm_p_X10_mat _ 3 [some (.inr (.inr 94)), some (.inl m), some (.inl w)] [.inl 1] μ
          refine jv_if_neT rfl rfl (by decide) ?_
          refine jv_iload_n rfl rfl rfl ?_
          refine jv_tsw rfl (And.intro (fun s7 => ?_) (fun ns7_3 => (And.intro (fun s7 => ?_) (fun ns7_2 => (And.intro (fun s7 => ?_) (fun ns7_1 => (And.intro (fun s7 => ?_) (fun ns7 => (jm_sw_1 ?_)))))))))
          · first
            | (exfalso; omega)
            | skip
              refine jv_aload_n rfl rfl rfl (by decide) ?_
              refine jv_getr (w := 95) rfl rfl rfl ⟨by decide, rfl⟩ rfl rfl ?_
              refine jv_iconst rfl rfl ?_
              refine jv_iload_n rfl rfl rfl ?_
              refine jv_iadd rfl rfl ⟨by omega, by omega⟩ ?_
              refine jv_iaload rfl rfl (by decide) rfl ⟨by omega, by omega⟩ ?_
              refine jv_ireturn rfl (Or.inl rfl) ?_
              exact ⟨jv_one (by have h9 := fun a b => (hrm m a b).1; omega), hI⟩
          · first
            | (exfalso; omega)
            | skip
              refine jv_aload_n rfl rfl rfl (by decide) ?_
              refine jv_iconst rfl rfl ?_
              refine jv_iload_n rfl rfl rfl ?_
              refine jv_callV2 rfl rfl rfl rfl ⟨by decide, rfl⟩ (Nat.le_of_ble_eq_true rfl) (mo_liesOn (by omega) (by omega) hwf0 ?_)
              show jV _ _ jm_p_X10_mat _ 19 [some (.inr (.inr 94)), some (.inl m), some (.inl w)] [.inl (jt_lies (fun k => μ 95 (0 + k)) m)] μ
              refine jv_ireturn rfl (Or.inl rfl) ?_
              exact ⟨jv_one (by have h9 := fun a b => (hrm m a b).1; omega), hI⟩
          · first
            | (exfalso; omega)
            | skip
              refine jv_aload_n rfl rfl rfl (by decide) ?_
              refine jv_getr (w := 95) rfl rfl rfl ⟨by decide, rfl⟩ rfl rfl ?_
              refine jv_iconst rfl rfl ?_
              refine jv_iaload rfl rfl (by decide) rfl ⟨by omega, by omega⟩ ?_
              refine jv_aload_n rfl rfl rfl (by decide) ?_
              refine jv_iconst rfl rfl ?_
              refine jv_iload_n rfl rfl rfl ?_
              refine jv_callV2 rfl rfl rfl rfl ⟨by decide, rfl⟩ (Nat.le_of_ble_eq_true rfl) (mo_liesOn (by omega) (by omega) hwf0 ?_)
              show jV _ _ jm_p_X10_mat _ 28 [some (.inr (.inr 94)), some (.inl m), some (.inl w)] [.inl (jt_lies (fun k => μ 95 (0 + k)) m), .inl (μ 95 2)] μ
              refine jv_isub rfl rfl ⟨by omega, by omega⟩ ?_
              refine jv_ireturn rfl (Or.inl rfl) ?_
              exact ⟨jv_one (by have h9 := fun a b => (hrm m a b).1; omega), hI⟩
          · first
            | (exfalso; omega)
            | skip
              refine jv_aload_n rfl rfl rfl (by decide) ?_
              refine jv_iload_n rfl rfl rfl ?_
              refine jv_callV1 rfl rfl rfl rfl ⟨by decide, rfl⟩ (Nat.le_of_ble_eq_true rfl) (mo_masterOf (s := fun j => μ 95 (8 + 6 * m + j)) (by omega) (fun _ => rfl) (fun r32 hr32 => ?_))
              show jV _ _ jm_p_X10_mat _ 33 [some (.inr (.inr 94)), some (.inl m), some (.inl w)] [.inl r32] μ
              refine jv_ireturn rfl (Or.inl rfl) ?_
              exact ⟨jv_one (by have h9 := fun a b => (hrm m a b).1; omega), hI⟩
          · first
            | (exfalso; omega)
            | skip
              show jV _ _ jm_p_X10_mat _ 34 [some (.inr (.inr 94)), some (.inl m), some (.inl w)] [] μ
              refine jv_ldc rfl rfl ?_
              refine jv_ireturn rfl (Or.inl rfl) ?_
              exact ⟨jv_one (by have h9 := fun a b => (hrm m a b).1; omega), hI⟩
      · first
        | (exfalso; omega)
        | skip
          show jV _ _ jm_p_X10_mat _ 3 [some (.inr (.inr 94)), some (.inl m), some (.inl w)] [.inl 0] μ
          refine jv_if_neF rfl rfl (by decide) ?_
          refine jv_ldc rfl rfl ?_
          refine jv_ireturn rfl (Or.inl rfl) ?_
          exact ⟨jv_one (by have h9 := fun a b => (hrm m a b).1; omega), hI⟩
    · refine jv_aload_n rfl rfl rfl (by decide) ?_
      refine jv_getr (w := 7) rfl rfl rfl ⟨by decide, rfl⟩ rfl rfl ?_
      refine jv_geti rfl rfl rfl ⟨by decide, rfl⟩ (by decide) ?_
      refine jv_aload_n rfl rfl rfl (by have := (jz_mat7 hmat (m := m) (by omega) (by omega)).2.2; omega) ?_
      refine jv_callV0 rfl rfl rfl (jz_mat7 hmat (m := m) (by omega) (by omega)).1 ⟨(jz_mat7 hmat (m := m) (by omega) (by omega)).2.2.1, rfl⟩ (Nat.le_of_ble_eq_true rfl) (cl_lying (jz_mat7 hmat (m := m) (by omega) (by omega)) (hly m (by omega) (by omega)) ?_)
      show jV _ _ jm_p_X9_mat _ 25 [some (.inr (.inr 0)), some (.inl m), some (.inl w), some (.inr (.inr (μ 8 m)))] [.inl (μ ((μ 8 m) + 1) 0 + μ ((μ 8 m) + 1) 1 + μ ((μ 8 m) + 1) 2 + μ ((μ 8 m) + 1) 3 + μ ((μ 8 m) + 1) 4 + μ ((μ 8 m) + 1) 5), .inl (μ 7 0)] μ
      refine jv_isub rfl rfl ⟨by omega, by omega⟩ ?_
      refine jv_ireturn rfl (Or.inl rfl) ?_
      refine ⟨_, rfl, ?_⟩
      refine jv_enter (d := 199) jm_p_X10_mat [some (.inr (.inr 94)), some (.inl m), some (.inl w)] rfl rfl rfl (Nat.le_of_ble_eq_true rfl) rfl rfl ?_
      refine jv_aload_n rfl rfl rfl (by decide) ?_
      refine jv_iload_n rfl rfl rfl ?_
      refine jv_callV1 rfl rfl rfl rfl ⟨by decide, rfl⟩ (Nat.le_of_ble_eq_true rfl) (mo_isMat (by omega) (fun b2 => ?_) (fun b2 => ?_))
      · first
        | (exfalso; omega)
        | skip
          show jV _ _ jm_p_X10_mat _ 3 [some (.inr (.inr 94)), some (.inl m), some (.inl w)] [.inl 1] μ
          refine jv_if_neT rfl rfl (by decide) ?_
          refine jv_iload_n rfl rfl rfl ?_
          refine jv_tsw rfl (And.intro (fun s7 => ?_) (fun ns7_3 => (And.intro (fun s7 => ?_) (fun ns7_2 => (And.intro (fun s7 => ?_) (fun ns7_1 => (And.intro (fun s7 => ?_) (fun ns7 => (jm_sw_1 ?_)))))))))
          · first
            | (exfalso; omega)
            | skip
              refine jv_aload_n rfl rfl rfl (by decide) ?_
              refine jv_getr (w := 95) rfl rfl rfl ⟨by decide, rfl⟩ rfl rfl ?_
              refine jv_iconst rfl rfl ?_
              refine jv_iload_n rfl rfl rfl ?_
              refine jv_iadd rfl rfl ⟨by omega, by omega⟩ ?_
              refine jv_iaload rfl rfl (by decide) rfl ⟨by omega, by omega⟩ ?_
              refine jv_ireturn rfl (Or.inl rfl) ?_
              exact ⟨jv_one (by have h9 := fun a b => (hrm m a b).1; omega), hI⟩
          · first
            | (exfalso; omega)
            | skip
              refine jv_aload_n rfl rfl rfl (by decide) ?_
              refine jv_iconst rfl rfl ?_
              refine jv_iload_n rfl rfl rfl ?_
              refine jv_callV2 rfl rfl rfl rfl ⟨by decide, rfl⟩ (Nat.le_of_ble_eq_true rfl) (mo_liesOn (by omega) (by omega) hwf0 ?_)
              show jV _ _ jm_p_X10_mat _ 19 [some (.inr (.inr 94)), some (.inl m), some (.inl w)] [.inl (jt_lies (fun k => μ 95 (0 + k)) m)] μ
              refine jv_ireturn rfl (Or.inl rfl) ?_
              exact ⟨jv_one (by have h9 := fun a b => (hrm m a b).1; omega), hI⟩
          · first
            | (exfalso; omega)
            | skip
              refine jv_aload_n rfl rfl rfl (by decide) ?_
              refine jv_getr (w := 95) rfl rfl rfl ⟨by decide, rfl⟩ rfl rfl ?_
              refine jv_iconst rfl rfl ?_
              refine jv_iaload rfl rfl (by decide) rfl ⟨by omega, by omega⟩ ?_
              refine jv_aload_n rfl rfl rfl (by decide) ?_
              refine jv_iconst rfl rfl ?_
              refine jv_iload_n rfl rfl rfl ?_
              refine jv_callV2 rfl rfl rfl rfl ⟨by decide, rfl⟩ (Nat.le_of_ble_eq_true rfl) (mo_liesOn (by omega) (by omega) hwf0 ?_)
              show jV _ _ jm_p_X10_mat _ 28 [some (.inr (.inr 94)), some (.inl m), some (.inl w)] [.inl (jt_lies (fun k => μ 95 (0 + k)) m), .inl (μ 95 2)] μ
              refine jv_isub rfl rfl ⟨by omega, by omega⟩ ?_
              refine jv_ireturn rfl (Or.inl rfl) ?_
              exact ⟨jv_one (by have h9 := fun a b => (hrm m a b).1; omega), hI⟩
          · first
            | (exfalso; omega)
            | skip
              refine jv_aload_n rfl rfl rfl (by decide) ?_
              refine jv_iload_n rfl rfl rfl ?_
              refine jv_callV1 rfl rfl rfl rfl ⟨by decide, rfl⟩ (Nat.le_of_ble_eq_true rfl) (mo_masterOf (s := fun j => μ 95 (8 + 6 * m + j)) (by omega) (fun _ => rfl) (fun r32 hr32 => ?_))
              show jV _ _ jm_p_X10_mat _ 33 [some (.inr (.inr 94)), some (.inl m), some (.inl w)] [.inl r32] μ
              refine jv_ireturn rfl (Or.inl rfl) ?_
              exact ⟨jv_one (by have h9 := fun a b => (hrm m a b).1; omega), hI⟩
          · first
            | (exfalso; omega)
            | skip
              show jV _ _ jm_p_X10_mat _ 34 [some (.inr (.inr 94)), some (.inl m), some (.inl w)] [] μ
              refine jv_ldc rfl rfl ?_
              refine jv_ireturn rfl (Or.inl rfl) ?_
              exact ⟨jv_one (by have h9 := fun a b => (hrm m a b).1; omega), hI⟩
      · first
        | (exfalso; omega)
        | skip
          show jV _ _ jm_p_X10_mat _ 3 [some (.inr (.inr 94)), some (.inl m), some (.inl w)] [.inl 0] μ
          refine jv_if_neF rfl rfl (by decide) ?_
          refine jv_ldc rfl rfl ?_
          refine jv_ireturn rfl (Or.inl rfl) ?_
          exact ⟨jv_one (by have h9 := fun a b => (hrm m a b).1; omega), hI⟩
    · refine jv_aload_n rfl rfl rfl (by have := (jz_mat7 hmat (m := m) (by omega) (by omega)).2.2; omega) ?_
      refine jv_callV0 rfl rfl rfl (jz_mat7 hmat (m := m) (by omega) (by omega)).1 ⟨(jz_mat7 hmat (m := m) (by omega) (by omega)).2.2.1, rfl⟩ (Nat.le_of_ble_eq_true rfl) (cl_master (jz_mat7 hmat (m := m) (by omega) (by omega)) (fun r28 hr28 => ?_))
      show jV _ _ jm_p_X9_mat _ 29 [some (.inr (.inr 0)), some (.inl m), some (.inl w), some (.inr (.inr (μ 8 m)))] [.inl r28] μ
      refine jv_ireturn rfl (Or.inl rfl) ?_
      refine ⟨_, rfl, ?_⟩
      refine jv_enter (d := 199) jm_p_X10_mat [some (.inr (.inr 94)), some (.inl m), some (.inl w)] rfl rfl rfl (Nat.le_of_ble_eq_true rfl) rfl rfl ?_
      refine jv_aload_n rfl rfl rfl (by decide) ?_
      refine jv_iload_n rfl rfl rfl ?_
      refine jv_callV1 rfl rfl rfl rfl ⟨by decide, rfl⟩ (Nat.le_of_ble_eq_true rfl) (mo_isMat (by omega) (fun b2 => ?_) (fun b2 => ?_))
      · first
        | (exfalso; omega)
        | skip
          show jV _ _ jm_p_X10_mat _ 3 [some (.inr (.inr 94)), some (.inl m), some (.inl w)] [.inl 1] μ
          refine jv_if_neT rfl rfl (by decide) ?_
          refine jv_iload_n rfl rfl rfl ?_
          refine jv_tsw rfl (And.intro (fun s7 => ?_) (fun ns7_3 => (And.intro (fun s7 => ?_) (fun ns7_2 => (And.intro (fun s7 => ?_) (fun ns7_1 => (And.intro (fun s7 => ?_) (fun ns7 => (jm_sw_1 ?_)))))))))
          · first
            | (exfalso; omega)
            | skip
              refine jv_aload_n rfl rfl rfl (by decide) ?_
              refine jv_getr (w := 95) rfl rfl rfl ⟨by decide, rfl⟩ rfl rfl ?_
              refine jv_iconst rfl rfl ?_
              refine jv_iload_n rfl rfl rfl ?_
              refine jv_iadd rfl rfl ⟨by omega, by omega⟩ ?_
              refine jv_iaload rfl rfl (by decide) rfl ⟨by omega, by omega⟩ ?_
              refine jv_ireturn rfl (Or.inl rfl) ?_
              exact ⟨jv_one (by have h9 := fun a b => (hrm m a b).1; omega), hI⟩
          · first
            | (exfalso; omega)
            | skip
              refine jv_aload_n rfl rfl rfl (by decide) ?_
              refine jv_iconst rfl rfl ?_
              refine jv_iload_n rfl rfl rfl ?_
              refine jv_callV2 rfl rfl rfl rfl ⟨by decide, rfl⟩ (Nat.le_of_ble_eq_true rfl) (mo_liesOn (by omega) (by omega) hwf0 ?_)
              show jV _ _ jm_p_X10_mat _ 19 [some (.inr (.inr 94)), some (.inl m), some (.inl w)] [.inl (jt_lies (fun k => μ 95 (0 + k)) m)] μ
              refine jv_ireturn rfl (Or.inl rfl) ?_
              exact ⟨jv_one (by have h9 := fun a b => (hrm m a b).1; omega), hI⟩
          · first
            | (exfalso; omega)
            | skip
              refine jv_aload_n rfl rfl rfl (by decide) ?_
              refine jv_getr (w := 95) rfl rfl rfl ⟨by decide, rfl⟩ rfl rfl ?_
              refine jv_iconst rfl rfl ?_
              refine jv_iaload rfl rfl (by decide) rfl ⟨by omega, by omega⟩ ?_
              refine jv_aload_n rfl rfl rfl (by decide) ?_
              refine jv_iconst rfl rfl ?_
              refine jv_iload_n rfl rfl rfl ?_
              refine jv_callV2 rfl rfl rfl rfl ⟨by decide, rfl⟩ (Nat.le_of_ble_eq_true rfl) (mo_liesOn (by omega) (by omega) hwf0 ?_)
              show jV _ _ jm_p_X10_mat _ 28 [some (.inr (.inr 94)), some (.inl m), some (.inl w)] [.inl (jt_lies (fun k => μ 95 (0 + k)) m), .inl (μ 95 2)] μ
              refine jv_isub rfl rfl ⟨by omega, by omega⟩ ?_
              refine jv_ireturn rfl (Or.inl rfl) ?_
              exact ⟨jv_one (by have h9 := fun a b => (hrm m a b).1; omega), hI⟩
          · first
            | (exfalso; omega)
            | skip
              refine jv_aload_n rfl rfl rfl (by decide) ?_
              refine jv_iload_n rfl rfl rfl ?_
              refine jv_callV1 rfl rfl rfl rfl ⟨by decide, rfl⟩ (Nat.le_of_ble_eq_true rfl) (mo_masterOf (s := fun j => μ 95 (8 + 6 * m + j)) (by omega) (fun _ => rfl) (fun r32 hr32 => ?_))
              show jV _ _ jm_p_X10_mat _ 33 [some (.inr (.inr 94)), some (.inl m), some (.inl w)] [.inl r32] μ
              refine jv_ireturn rfl (Or.inl rfl) ?_
              exact ⟨jv_one (jz_mst_one (fun j j0 j1 => ((hrm m (by omega) (by omega)).2 j j0 j1).symm) hr32 hr28), hI⟩
          · first
            | (exfalso; omega)
            | skip
              show jV _ _ jm_p_X10_mat _ 34 [some (.inr (.inr 94)), some (.inl m), some (.inl w)] [] μ
              refine jv_ldc rfl rfl ?_
              refine jv_ireturn rfl (Or.inl rfl) ?_
              exact ⟨jv_one (by have h9 := fun a b => (hrm m a b).1; omega), hI⟩
      · first
        | (exfalso; omega)
        | skip
          show jV _ _ jm_p_X10_mat _ 3 [some (.inr (.inr 94)), some (.inl m), some (.inl w)] [.inl 0] μ
          refine jv_if_neF rfl rfl (by decide) ?_
          refine jv_ldc rfl rfl ?_
          refine jv_ireturn rfl (Or.inl rfl) ?_
          exact ⟨jv_one (by have h9 := fun a b => (hrm m a b).1; omega), hI⟩
    · show jV _ _ jm_p_X9_mat _ 30 [some (.inr (.inr 0)), some (.inl m), some (.inl w), some (.inr (.inr (μ 8 m)))] [] μ
      refine jv_ldc rfl rfl ?_
      refine jv_ireturn rfl (Or.inl rfl) ?_
      refine ⟨_, rfl, ?_⟩
      refine jv_enter (d := 199) jm_p_X10_mat [some (.inr (.inr 94)), some (.inl m), some (.inl w)] rfl rfl rfl (Nat.le_of_ble_eq_true rfl) rfl rfl ?_
      refine jv_aload_n rfl rfl rfl (by decide) ?_
      refine jv_iload_n rfl rfl rfl ?_
      refine jv_callV1 rfl rfl rfl rfl ⟨by decide, rfl⟩ (Nat.le_of_ble_eq_true rfl) (mo_isMat (by omega) (fun b2 => ?_) (fun b2 => ?_))
      · first
        | (exfalso; omega)
        | skip
          show jV _ _ jm_p_X10_mat _ 3 [some (.inr (.inr 94)), some (.inl m), some (.inl w)] [.inl 1] μ
          refine jv_if_neT rfl rfl (by decide) ?_
          refine jv_iload_n rfl rfl rfl ?_
          refine jv_tsw rfl (And.intro (fun s7 => ?_) (fun ns7_3 => (And.intro (fun s7 => ?_) (fun ns7_2 => (And.intro (fun s7 => ?_) (fun ns7_1 => (And.intro (fun s7 => ?_) (fun ns7 => (jm_sw_1 ?_)))))))))
          · first
            | (exfalso; omega)
            | skip
              refine jv_aload_n rfl rfl rfl (by decide) ?_
              refine jv_getr (w := 95) rfl rfl rfl ⟨by decide, rfl⟩ rfl rfl ?_
              refine jv_iconst rfl rfl ?_
              refine jv_iload_n rfl rfl rfl ?_
              refine jv_iadd rfl rfl ⟨by omega, by omega⟩ ?_
              refine jv_iaload rfl rfl (by decide) rfl ⟨by omega, by omega⟩ ?_
              refine jv_ireturn rfl (Or.inl rfl) ?_
              exact ⟨jv_one (by have h9 := fun a b => (hrm m a b).1; omega), hI⟩
          · first
            | (exfalso; omega)
            | skip
              refine jv_aload_n rfl rfl rfl (by decide) ?_
              refine jv_iconst rfl rfl ?_
              refine jv_iload_n rfl rfl rfl ?_
              refine jv_callV2 rfl rfl rfl rfl ⟨by decide, rfl⟩ (Nat.le_of_ble_eq_true rfl) (mo_liesOn (by omega) (by omega) hwf0 ?_)
              show jV _ _ jm_p_X10_mat _ 19 [some (.inr (.inr 94)), some (.inl m), some (.inl w)] [.inl (jt_lies (fun k => μ 95 (0 + k)) m)] μ
              refine jv_ireturn rfl (Or.inl rfl) ?_
              exact ⟨jv_one (by have h9 := fun a b => (hrm m a b).1; omega), hI⟩
          · first
            | (exfalso; omega)
            | skip
              refine jv_aload_n rfl rfl rfl (by decide) ?_
              refine jv_getr (w := 95) rfl rfl rfl ⟨by decide, rfl⟩ rfl rfl ?_
              refine jv_iconst rfl rfl ?_
              refine jv_iaload rfl rfl (by decide) rfl ⟨by omega, by omega⟩ ?_
              refine jv_aload_n rfl rfl rfl (by decide) ?_
              refine jv_iconst rfl rfl ?_
              refine jv_iload_n rfl rfl rfl ?_
              refine jv_callV2 rfl rfl rfl rfl ⟨by decide, rfl⟩ (Nat.le_of_ble_eq_true rfl) (mo_liesOn (by omega) (by omega) hwf0 ?_)
              show jV _ _ jm_p_X10_mat _ 28 [some (.inr (.inr 94)), some (.inl m), some (.inl w)] [.inl (jt_lies (fun k => μ 95 (0 + k)) m), .inl (μ 95 2)] μ
              refine jv_isub rfl rfl ⟨by omega, by omega⟩ ?_
              refine jv_ireturn rfl (Or.inl rfl) ?_
              exact ⟨jv_one (by have h9 := fun a b => (hrm m a b).1; omega), hI⟩
          · first
            | (exfalso; omega)
            | skip
              refine jv_aload_n rfl rfl rfl (by decide) ?_
              refine jv_iload_n rfl rfl rfl ?_
              refine jv_callV1 rfl rfl rfl rfl ⟨by decide, rfl⟩ (Nat.le_of_ble_eq_true rfl) (mo_masterOf (s := fun j => μ 95 (8 + 6 * m + j)) (by omega) (fun _ => rfl) (fun r32 hr32 => ?_))
              show jV _ _ jm_p_X10_mat _ 33 [some (.inr (.inr 94)), some (.inl m), some (.inl w)] [.inl r32] μ
              refine jv_ireturn rfl (Or.inl rfl) ?_
              exact ⟨jv_one (by have h9 := fun a b => (hrm m a b).1; omega), hI⟩
          · first
            | (exfalso; omega)
            | skip
              show jV _ _ jm_p_X10_mat _ 34 [some (.inr (.inr 94)), some (.inl m), some (.inl w)] [] μ
              refine jv_ldc rfl rfl ?_
              refine jv_ireturn rfl (Or.inl rfl) ?_
              exact ⟨jv_one (by have h9 := fun a b => (hrm m a b).1; omega), hI⟩
      · first
        | (exfalso; omega)
        | skip
          show jV _ _ jm_p_X10_mat _ 3 [some (.inr (.inr 94)), some (.inl m), some (.inl w)] [.inl 0] μ
          refine jv_if_neF rfl rfl (by decide) ?_
          refine jv_ldc rfl rfl ?_
          refine jv_ireturn rfl (Or.inl rfl) ?_
          exact ⟨jv_one (by have h9 := fun a b => (hrm m a b).1; omega), hI⟩
