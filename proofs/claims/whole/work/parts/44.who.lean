/-- behind c's coming each mat bears what g tells from a on -/
def jb_so (T : Int → Int) (c : Int) (g : Int → Int) (a n : Int) : Prop := ∀ m, 0 ≤ m → m < n → jt_lies (jt_come T c) m = g (a + m)
/-- the walk's rows alone have changed -/
def jf5 (μ0 μ : jm_M) : Prop := ∀ z, (z < 51 ∨ 53 < z) → μ z = μ0 z
theorem jf5_jf {μ0 μ : jm_M} (h : jf5 μ0 μ) : jf μ0 μ := fun z q => h z (by omega)
theorem jI_pairW {μ μ1 μ1' μ2 μ2' : jm_M} (h : jI μ) (fc : jf μ μ1) (e1 : μ1' = jm_uc μ1 0 (jm_u1 (μ1 0) 11 0)) (fr : jr μ1' μ2) (e2 : μ2' = jm_uc μ2 94 (jm_u1 (μ2 94) 10 0)) : jI μ2' := by
  have f94 : μ2 94 = μ 94 := by rw [fr.1 94 (by decide), e1, jm_off1 (by decide), fc 94 (by omega)]
  have f0 : μ2 0 = jm_u1 (μ 0) 11 0 := by rw [fr.1 0 (by decide), e1, jm_uc_self, fc 0 (by omega)]
  have g94 : μ2' 94 = jm_u1 (μ 94) 10 0 := by rw [e2, jm_uc_self, f94]
  have g0 : μ2' 0 = jm_u1 (μ 0) 11 0 := by rw [e2, jm_off1 (by decide), f0]
  have d := h.2.2.2.1
  refine jI_tried h (fun z q => by rw [e2, jm_off1 q.2.1, fr.1 z q.2.2.1, e1, jm_off1 q.1, fc z (by omega)]) (fun j q => by rw [e2, jm_off1 (by decide), fr.2 j q, e1, jm_off1 (by decide), fc 95 (by omega)]) ?_ ?_ ?_ ?_ ?_ ?_
  · rw [g94]; rfl
  · rw [g94]; rfl
  · rw [g94]; rfl
  · rw [g94]; rfl
  · rw [g94, g0]; rfl
  · rw [g94, g0]
    exact d.2
set_option maxRecDepth 10000 in
theorem cl_item {X : jm_X} {d : Nat} {Q : jv_P} {μ : jm_M} {r a : Int} (hr : 0 ≤ r ∧ r < 8) (ha : 0 ≤ a ∧ a < 40) (k : Q [.inl (μ 2 (40 * r + a))] μ) : cV X (d + 1) 76 [.inr (.inr 1), .inl r, .inl a] μ Q := by
  refine jv_enter (d := d + 0) jm_p_X7_item [some (.inr (.inr 1)), some (.inl r), some (.inl a)] rfl rfl rfl (Nat.le_of_ble_eq_true rfl) rfl rfl ?_
  refine jv_aload_n rfl rfl rfl (by decide) ?_
  refine jv_getr (w := 2) rfl rfl rfl ⟨by decide, rfl⟩ rfl rfl ?_
  refine jv_iload_n rfl rfl rfl ?_
  refine jv_bipush rfl rfl ?_
  refine jv_imul rfl rfl ⟨by omega, by omega⟩ ?_
  refine jv_iload_n rfl rfl rfl ?_
  refine jv_iadd rfl rfl ⟨by omega, by omega⟩ ?_
  refine jv_iaload rfl rfl (by decide) rfl ⟨by omega, by omega⟩ ?_
  refine jv_ireturn rfl (Or.inl rfl) ?_
  rw [show r * 40 + a = 40 * r + a by omega]
  exact k
set_option maxRecDepth 10000 in
theorem cl_isSo_l {X : jm_X} {d : Nat} {Q : jv_P} {μ : jm_M} {z r a n0 : Int} {l g : Int → Int} (hr : 0 ≤ r ∧ r < 8) (ha : 0 ≤ a ∧ a + n0 ≤ 40) (n4 : n0 ≤ 4) (hn : μ 7 2 = n0) (hl : ∀ m, 0 ≤ m → m < n0 → μ 52 m = l m) (hg : ∀ j, 0 ≤ j → j < 40 → μ 2 (40 * r + j) = g j) (k1 : (∀ m, 0 ≤ m → m < n0 → l m = g (a + m)) → Q [.inl 1] μ) (k0 : ¬ (∀ m, 0 ≤ m → m < n0 → l m = g (a + m)) → Q [.inl 0] μ) : ∀ (n : Nat) (w : Int), 0 ≤ w → n0 - w < n → (∀ m, 0 ≤ m → m < w → l m = g (a + m)) → jV X (d + 1) jm_p_X2_isSoBehind Q 12 [some (.inr (.inr 49)), some (.inr (.inr 7)), some (.inr (.inr z)), some (.inr (.inr 1)), some (.inl r), some (.inl a), some (.inl w)] [] μ := by
  intro n
  induction n with
  | zero =>
    intro w x0 xn hv
    refine jv_iload rfl rfl rfl ?_
    refine jv_aload_n rfl rfl rfl (by decide) ?_
    refine jv_geti rfl rfl rfl ⟨by decide, rfl⟩ (by decide) ?_
    refine jv_icmp_geT rfl rfl (by omega) ?_
    refine jv_iconst rfl rfl ?_
    refine jv_ireturn rfl (Or.inr ⟨rfl, by decide⟩) ?_
    refine k1 (fun m m0 m1 => hv m m0 (by omega))
  | succ n ih =>
    intro w x0 xn hv
    refine jv_iload rfl rfl rfl ?_
    refine jv_aload_n rfl rfl rfl (by decide) ?_
    refine jv_geti rfl rfl rfl ⟨by decide, rfl⟩ (by decide) ?_
    refine jv_icmp_ge rfl rfl rfl (fun c15 => ?_) (fun c15 => ?_)
    · refine jv_iconst rfl rfl ?_
      refine jv_ireturn rfl (Or.inr ⟨rfl, by decide⟩) ?_
      refine k1 (fun m m0 m1 => hv m m0 (by omega))
    · have q1 := hl w (by omega) (by omega)
      have q2 := hg (a + w) (by omega) (by omega)
      refine jv_aload_n rfl rfl rfl (by decide) ?_
      refine jv_getr (w := 50) rfl rfl rfl ⟨by decide, rfl⟩ rfl rfl ?_
      refine jv_getr (w := 52) rfl rfl rfl ⟨by decide, rfl⟩ rfl rfl ?_
      refine jv_iload rfl rfl rfl ?_
      refine jv_iaload rfl rfl (by decide) rfl ⟨by omega, by omega⟩ ?_
      refine jv_aload_n rfl rfl rfl (by decide) ?_
      refine jv_iload rfl rfl rfl ?_
      refine jv_iload rfl rfl rfl ?_
      refine jv_iload rfl rfl rfl ?_
      refine jv_iadd rfl rfl ⟨by omega, by omega⟩ ?_
      refine jv_callV2 rfl rfl rfl rfl ⟨by decide, rfl⟩ (Nat.le_of_ble_eq_true rfl) (cl_item (by omega) (by omega) ?_)
      show jV _ _ jm_p_X2_isSoBehind _ 27 [some (.inr (.inr 49)), some (.inr (.inr 7)), some (.inr (.inr z)), some (.inr (.inr 1)), some (.inl r), some (.inl a), some (.inl w)] [.inl (μ 2 (40 * r + (a + w))), .inl (μ 52 w)] μ
      refine jv_icmp_eq rfl rfl rfl (fun c27 => ?_) (fun c27 => ?_)
      · refine jv_iinc (fun x => [some (.inr (.inr 49)), some (.inr (.inr 7)), some (.inr (.inr z)), some (.inr (.inr 1)), some (.inl r), some (.inl a), some (.inl x)]) rfl rfl rfl ⟨by omega, by omega⟩ (fun _ => rfl) (fun x6_30 ex6_30 => ?_)
        refine jv_goto rfl rfl ?_
        refine ih x6_30 (by omega) (by omega) (fun m m0 m1 => ?_)
        by_cases hm : m < w
        · exact hv m m0 hm
        · rw [show m = w by omega]
          omega
      · refine jv_iconst rfl rfl ?_
        refine jv_ireturn rfl (Or.inr ⟨rfl, by decide⟩) ?_
        refine k0 (fun q => ?_)
        have q3 := q w (by omega) (by omega)
        omega
set_option maxRecDepth 10000 in
theorem cl_isSo {X : jm_X} {d : Nat} {Q : jv_P} {μ : jm_M} {z c r a : Int} {t T g : Int → Int} (hz : jz_com z) (zb : z = 54 ∨ z < 45) (hHμ : jH μ t) (hT : jt_wf T) (e0 : T 0 = t 0) (e2 : T 2 = t 2) (el : ∀ j, 4 ≤ j → j < 32 → T j = t j) (hc : 0 ≤ c ∧ c < 6) (hk : 1 ≤ T (32 + c)) (h0 : μ z 0 = T (32 + c)) (h1 : μ z 1 = T (38 + c)) (h2 : μ z 2 = T (44 + c)) (h3 : μ z 3 = T (50 + c)) (hr : 0 ≤ r ∧ r < 8) (ha : 0 ≤ a ∧ a + t 0 ≤ 40) (hg : ∀ j, 0 ≤ j → j < 40 → μ 2 (40 * r + j) = g j) (k1 : ∀ μ2, jb_so T c g a (t 0) → jf5 μ μ2 → Q [.inl 1] μ2) (k0 : ∀ μ2, ¬ jb_so T c g a (t 0) → jf5 μ μ2 → Q [.inl 0] μ2) : cV X (d + 3) 26 [.inr (.inr 49), .inr (.inr 7), .inr (.inr z), .inr (.inr 1), .inl r, .inl a] μ Q := by
  refine jv_enter (d := d + 2) jm_p_X2_isSoBehind [some (.inr (.inr 49)), some (.inr (.inr 7)), some (.inr (.inr z)), some (.inr (.inr 1)), some (.inl r), some (.inl a), none] rfl rfl rfl (Nat.le_of_ble_eq_true rfl) rfl rfl ?_
  refine jv_aload_n rfl rfl rfl (by decide) ?_
  refine jv_getr (w := 50) rfl rfl rfl ⟨by decide, rfl⟩ rfl rfl ?_
  refine jv_aload_n rfl rfl rfl (by decide) ?_
  refine jv_callV1 rfl rfl rfl rfl ⟨by decide, rfl⟩ (Nat.le_of_ble_eq_true rfl) (cl_beginT50 hHμ (fun μ3 fμ3 jμ3 lμ3 => ?_))
  show jV _ _ jm_p_X2_isSoBehind _ 4 [some (.inr (.inr 49)), some (.inr (.inr 7)), some (.inr (.inr z)), some (.inr (.inr 1)), some (.inl r), some (.inl a), none] [] μ3
  have hHμ3 := jH_congr (fun z a b => fμ3 z (by omega) (by omega) (by omega)) hHμ
  have n3μ3 := jH_3 hHμ3
  have n2μ3 := jH_2 hHμ3
  have fz : μ3 z = μ z := fμ3 z (by omega) (by omega) (by omega)
  have hjT : jw (μ3 51) (μ3 52) (fun p => p) T := by
    refine ⟨fun p p0 p1 => ?_, fun m m0 m1 => by rw [e2]; exact jμ3.2 m m0 m1⟩
    have q := jμ3.1 p p0 (by omega)
    refine ⟨q.1, q.2.trans ?_⟩
    have w0 := hT.1
    unfold jt_lies
    rw [el _ (by omega) (by omega), el _ (by omega) (by omega), el _ (by omega) (by omega), el _ (by omega) (by omega), el _ (by omega) (by omega), el _ (by omega) (by omega)]
  refine jv_aload_n rfl rfl rfl (by decide) ?_
  refine jv_getr (w := 50) rfl rfl rfl ⟨by decide, rfl⟩ rfl rfl ?_
  refine jv_aload_n rfl rfl rfl (by decide) ?_
  refine jv_aload_n rfl rfl rfl (by have := hz.2; omega) ?_
  have hrm : ∀ p, 0 ≤ p → p < T 0 → μ3 (μ3 8 p) 0 = T (4 + p) := fun p p0 p1 => by
    have w0 := hT.1
    rw [el (4 + p) (by omega) (by omega)]
    exact (hHμ3.2.2.2.2.1 p p0 (by omega)).1
  refine jv_callV2 rfl rfl rfl rfl ⟨by decide, rfl⟩ (Nat.le_of_ble_eq_true rfl) (cl_goT50 (c := c) (T := T) hz ⟨by omega, by omega⟩ hT hc hk (by rw [fz]; exact h0) (by rw [fz]; exact h1) (by rw [fz]; exact h2) (by rw [fz]; exact h3) (by rw [e2]; exact hHμ3.2.2.2.1.1) (by rw [e0]; exact n2μ3) hHμ3.2.2.1 (jl_id _) hrm hjT (fun μ8 fμ8 jμ8 lμ8 => ?_))
  show jV _ _ jm_p_X2_isSoBehind _ 9 [some (.inr (.inr 49)), some (.inr (.inr 7)), some (.inr (.inr z)), some (.inr (.inr 1)), some (.inl r), some (.inl a), none] [.inl (jt_y T c (T 0).toNat)] μ8
  have hHμ8 := jH_congr (fun z a b => fμ8 z (by omega) (by omega)) hHμ3
  have n3μ8 := jH_3 hHμ8
  have n2μ8 := jH_2 hHμ8
  refine jv_pop rfl rfl ?_
  refine jv_iconst rfl rfl ?_
  refine jv_istoreK (L2 := [some (.inr (.inr 49)), some (.inr (.inr 7)), some (.inr (.inr z)), some (.inr (.inr 1)), some (.inl r), some (.inl a), some (.inl 0)]) rfl rfl rfl ?_
  have fc : jf5 μ μ8 := fun z q => by rw [fμ8 z (by omega) (by omega), fμ3 z (by omega) (by omega) (by omega)]
  have w0 := hT.1
  have hL : ∀ m, 0 ≤ m → m < t 0 → μ8 52 m = jt_lies (jt_come T c) m := fun m m0 m1 => (jμ8.1 m m0 (by rw [jt_come_out (by omega) hc.1 w0.2, e0]; exact m1)).2
  exact cl_isSo_l hr ha (by omega) n2μ8 hL (fun j j0 j1 => by rw [fc 2 (by omega)]; exact hg j j0 j1) (fun q => k1 _ q fc) (fun q => k0 _ q fc) 9 0 (by omega) (by omega) (fun m m0 m1 => by exfalso; omega)
set_option maxRecDepth 10000 in
theorem cl_culprits_l {X : jm_X} {d : Nat} {Q : jv_P} {t g : Int → Int} {r a : Int} {μ0 : jm_M} (hH0 : jH μ0 t) (hr : 0 ≤ r ∧ r < 8) (ha : 0 ≤ a ∧ a + t 0 ≤ 40) (hg : ∀ j, 0 ≤ j → j < 40 → μ0 2 (40 * r + j) = g j) (k : ∀ s μ2, jb_is (fun c => jb_so t c g a (t 0)) 0 (t 1 - 0).toNat s → jf μ0 μ2 → Q [.inl s] μ2) : ∀ (n : Nat) (s w : Int) (μ : jm_M), 0 ≤ w → w ≤ t 1 → t 1 - w < n → jb_is (fun c => jb_so t c g a (t 0)) 0 (w - 0).toNat s → jf μ0 μ → jV X (d + 3) jm_p_X2_culprits Q 4 [some (.inr (.inr 49)), some (.inr (.inr 7)), some (.inr (.inr 1)), some (.inl r), some (.inl a), some (.inl s), some (.inl w)] [] μ := by
  intro n
  induction n with
  | zero => intro s w μ y0 y1 yn hs hf; exfalso; omega
  | succ n ih =>
    intro s w μ y0 y1 yn hs hf
    have hHμ := jH_jf hf hH0
    have n3μ := jH_3 hHμ
    have n2μ := jH_2 hHμ
    obtain ⟨w0, w1, w2, w3, w4, w6, w7, w8⟩ := id hHμ.1
    have hcm : ∀ c, 0 ≤ c → c < t 1 → μ (18 + c) 0 = t (32 + c) ∧ μ (18 + c) 1 = t (38 + c) ∧ μ (18 + c) 2 = t (44 + c) ∧ μ (18 + c) 3 = t (50 + c) ∧ μ (18 + c) 4 = t (56 + c) := fun c c0 c1 => hHμ.2.2.2.2.2.2 c c0 c1
    refine jv_iload rfl rfl rfl ?_
    refine jv_aload_n rfl rfl rfl (by decide) ?_
    refine jv_geti rfl rfl rfl ⟨by decide, rfl⟩ (by decide) ?_
    refine jv_icmp_ge rfl rfl rfl (fun c7 => ?_) (fun c7 => ?_)
    · refine jv_iload rfl rfl rfl ?_
      refine jv_ireturn rfl (Or.inl rfl) ?_
      have hw : w = t 1 := by omega
      rw [hw] at hs
      exact k _ _ hs hf
    · refine jv_aload_n rfl rfl rfl (by decide) ?_
      refine jv_aload_n rfl rfl rfl (by decide) ?_
      refine jv_aload_n rfl rfl rfl (by decide) ?_
      refine jv_getr (w := 9) rfl rfl rfl ⟨by decide, rfl⟩ rfl rfl ?_
      refine jv_iload rfl rfl rfl ?_
      refine jv_aaloadv (v := 18 + w) rfl rfl rfl ⟨by decide, by decide, by decide⟩ ⟨by omega, by omega⟩ (jH_com hHμ (by omega) (by omega)) ?_
      refine jv_aload_n rfl rfl rfl (by decide) ?_
      refine jv_iload_n rfl rfl rfl ?_
      refine jv_iload rfl rfl rfl ?_
      refine jv_callV5 rfl rfl rfl rfl ⟨by decide, rfl⟩ (Nat.le_of_ble_eq_true rfl) (cl_isSo (c := w) (T := t) (g := g) (jz_com7 (by omega) (by omega)) (Or.inr (by omega)) hHμ hHμ.1 rfl rfl (fun _ _ _ => rfl) (by omega) (hHμ.2.1 w (by omega) (by omega)) (hcm w (by omega) (by omega)).1 (hcm w (by omega) (by omega)).2.1 (hcm w (by omega) (by omega)).2.2.1 (hcm w (by omega) (by omega)).2.2.2.1 hr ha (fun j j0 j1 => by rw [hf 2 (by omega)]; exact hg j j0 j1) (fun μ17 bμ17 fμ17 => ?_) (fun μ17 bμ17 fμ17 => ?_))
      · show jV _ _ jm_p_X2_culprits _ 18 [some (.inr (.inr 49)), some (.inr (.inr 7)), some (.inr (.inr 1)), some (.inl r), some (.inl a), some (.inl s), some (.inl w)] [.inl 1] μ17
        refine jv_if_eqF rfl rfl (by decide) ?_
        refine jv_iload rfl rfl rfl ?_
        refine jv_iconst rfl rfl ?_
        refine jv_iload rfl rfl rfl ?_
        refine jv_ishl rfl rfl ?_
        refine jv_ior rfl rfl ?_
        refine jv_istore (fun x => [some (.inr (.inr 49)), some (.inr (.inr 7)), some (.inr (.inr 1)), some (.inl r), some (.inl a), some (.inl x), some (.inl w)]) rfl rfl (fun _ => rfl) (fun x5_24 ex5_24 => ?_)
        refine jv_iinc (fun x => [some (.inr (.inr 49)), some (.inr (.inr 7)), some (.inr (.inr 1)), some (.inl r), some (.inl a), some (.inl x5_24), some (.inl x)]) rfl rfl rfl ⟨by omega, by omega⟩ (fun _ => rfl) (fun x6_25 ex6_25 => ?_)
        refine jv_goto rfl rfl ?_
        refine ih x5_24 x6_25 μ17 (by omega) (by omega) (by omega) ?_ ?_
        · rw [ex6_25, show (w + 1 - 0).toNat = (w - 0).toNat + 1 by omega]
          refine ⟨s, hs, ?_⟩
          rw [show 0 + (((w - 0).toNat : Nat) : Int) = w by omega]
          first
          | exact Or.inl ⟨by exact bμ17, ex5_24⟩
          | exact Or.inr ⟨by exact bμ17, by rw [ex5_24]; exact jm_or_0 (jb_is_r _ _ hs)⟩
        · exact jf_tr hf (jf5_jf fμ17)
      · show jV _ _ jm_p_X2_culprits _ 18 [some (.inr (.inr 49)), some (.inr (.inr 7)), some (.inr (.inr 1)), some (.inl r), some (.inl a), some (.inl s), some (.inl w)] [.inl 0] μ17
        refine jv_if_eqT rfl rfl (by decide) ?_
        refine jv_iinc (fun x => [some (.inr (.inr 49)), some (.inr (.inr 7)), some (.inr (.inr 1)), some (.inl r), some (.inl a), some (.inl s), some (.inl x)]) rfl rfl rfl ⟨by omega, by omega⟩ (fun _ => rfl) (fun x6_25_1 ex6_25_1 => ?_)
        refine jv_goto rfl rfl ?_
        refine ih s x6_25_1 μ17 (by omega) (by omega) (by omega) ?_ ?_
        · rw [ex6_25_1, show (w + 1 - 0).toNat = (w - 0).toNat + 1 by omega]
          refine ⟨s, hs, ?_⟩
          rw [show 0 + (((w - 0).toNat : Nat) : Int) = w by omega]
          first
          | exact Or.inl ⟨by exact bμ17, rfl⟩
          | exact Or.inr ⟨by exact bμ17, rfl⟩
        · exact jf_tr hf (jf5_jf fμ17)
set_option maxRecDepth 10000 in
theorem cl_culprits {X : jm_X} {d : Nat} {Q : jv_P} {μ : jm_M} {t g : Int → Int} {r a : Int} (hH0 : jH μ t) (hr : 0 ≤ r ∧ r < 8) (ha : 0 ≤ a ∧ a + t 0 ≤ 40) (hg : ∀ j, 0 ≤ j → j < 40 → μ 2 (40 * r + j) = g j) (k : ∀ s μ2, jb_is (fun c => jb_so t c g a (t 0)) 0 (t 1 - 0).toNat s → jf μ μ2 → Q [.inl s] μ2) : cV X (d + 4) 22 [.inr (.inr 49), .inr (.inr 7), .inr (.inr 1), .inl r, .inl a] μ Q := by
  refine jv_enter (d := d + 3) jm_p_X2_culprits [some (.inr (.inr 49)), some (.inr (.inr 7)), some (.inr (.inr 1)), some (.inl r), some (.inl a), none, none] rfl rfl rfl (Nat.le_of_ble_eq_true rfl) rfl rfl ?_
  refine jv_iconst rfl rfl ?_
  refine jv_istoreK (L2 := [some (.inr (.inr 49)), some (.inr (.inr 7)), some (.inr (.inr 1)), some (.inl r), some (.inl a), some (.inl 0), none]) rfl rfl rfl ?_
  refine jv_iconst rfl rfl ?_
  refine jv_istoreK (L2 := [some (.inr (.inr 49)), some (.inr (.inr 7)), some (.inr (.inr 1)), some (.inl r), some (.inl a), some (.inl 0), some (.inl 0)]) rfl rfl rfl ?_
  exact cl_culprits_l hH0 hr ha hg k 9 0 0 μ (by omega) hH0.1.2.1.1 (by have := hH0.1.2.1.2; omega) rfl (jf_id μ)
set_option maxRecDepth 10000 in
theorem cl_matRow {X : jm_X} {d : Nat} {Q : jv_P} {μ : jm_M} {r a : Int} (hr : 0 ≤ r ∧ r < 8) (hs : -1 ≤ μ 4 r ∧ μ 4 r ≤ 40) (hn : jm_r (μ 7 2)) (k1 : μ 4 r = -1 → Q [.inl 1] μ) (k0 : ¬ μ 4 r = -1 → 0 ≤ a ∧ 0 ≤ μ 7 2 ∧ a + μ 7 2 ≤ μ 4 r → Q [.inl 0] μ) (k2 : ¬ μ 4 r = -1 → ¬ (0 ≤ a ∧ 0 ≤ μ 7 2 ∧ a + μ 7 2 ≤ μ 4 r) → Q [.inl 2] μ) : cV X (d + 2) 133 [.inr (.inr 0), .inl r, .inl a] μ Q := by
  refine jv_enter (d := d + 1) jm_p_X9_matRowFinding [some (.inr (.inr 0)), some (.inl r), some (.inl a)] rfl rfl rfl (Nat.le_of_ble_eq_true rfl) rfl rfl ?_
  refine jv_aload_n rfl rfl rfl (by decide) ?_
  refine jv_getr (w := 1) rfl rfl rfl ⟨by decide, rfl⟩ rfl rfl ?_
  refine jv_iload_n rfl rfl rfl ?_
  refine jv_callV1 rfl rfl rfl rfl ⟨by decide, rfl⟩ (Nat.le_of_ble_eq_true rfl) (cl_isMissing (by omega) (fun b3 => ?_) (fun b3 => ?_))
  · show jV _ _ jm_p_X9_matRowFinding _ 4 [some (.inr (.inr 0)), some (.inl r), some (.inl a)] [.inl 1] μ
    refine jv_if_eqF rfl rfl (by decide) ?_
    refine jv_iconst rfl rfl ?_
    refine jv_ireturn rfl (Or.inl rfl) ?_
    exact k1 b3
  · show jV _ _ jm_p_X9_matRowFinding _ 4 [some (.inr (.inr 0)), some (.inl r), some (.inl a)] [.inl 0] μ
    refine jv_if_eqT rfl rfl (by decide) ?_
    refine jv_aload_n rfl rfl rfl (by decide) ?_
    refine jv_getr (w := 1) rfl rfl rfl ⟨by decide, rfl⟩ rfl rfl ?_
    refine jv_iload_n rfl rfl rfl ?_
    refine jv_iload_n rfl rfl rfl ?_
    refine jv_aload_n rfl rfl rfl (by decide) ?_
    refine jv_getr (w := 7) rfl rfl rfl ⟨by decide, rfl⟩ rfl rfl ?_
    refine jv_geti rfl rfl rfl ⟨by decide, rfl⟩ (by decide) ?_
    refine jv_callV3 rfl rfl rfl rfl ⟨by decide, rfl⟩ (Nat.le_of_ble_eq_true rfl) (cl_reaches (by omega) (by omega) (by omega) (fun b14 => ?_) (fun b14 => ?_))
    · show jV _ _ jm_p_X9_matRowFinding _ 15 [some (.inr (.inr 0)), some (.inl r), some (.inl a)] [.inl 1] μ
      refine jv_if_eqF rfl rfl (by decide) ?_
      refine jv_iconst rfl rfl ?_
      refine jv_goto rfl rfl ?_
      refine jv_ireturn rfl (Or.inl rfl) ?_
      exact k0 b3 b14
    · show jV _ _ jm_p_X9_matRowFinding _ 15 [some (.inr (.inr 0)), some (.inl r), some (.inl a)] [.inl 0] μ
      refine jv_if_eqT rfl rfl (by decide) ?_
      refine jv_iconst rfl rfl ?_
      refine jv_ireturn rfl (Or.inl rfl) ?_
      exact k2 b3 b14
set_option maxRecDepth 10000 in
theorem mo_noItems {X : jm_X} {d : Nat} {Q : jv_P} {μ : jm_M} {r a : Int} (hr : 0 ≤ r ∧ r < 8) (hs : -1 ≤ μ 98 r ∧ μ 98 r ≤ 40) (ha : jm_r a) (h0 : 0 ≤ μ 95 0 ∧ μ 95 0 ≤ 4) (k1 : μ 98 r < 0 → ∀ μ2, μ2 = jm_uc μ 94 (jm_u1 (μ 94) 10 1) → Q [.inl (-1000011)] μ2) (k0 : ¬ μ 98 r < 0 → 0 ≤ a ∧ 0 ≤ μ 95 0 ∧ a + μ 95 0 ≤ μ 98 r → Q [.inl 0] μ) (k2 : ¬ μ 98 r < 0 → ¬ (0 ≤ a ∧ 0 ≤ μ 95 0 ∧ a + μ 95 0 ≤ μ 98 r) → ∀ μ2, μ2 = jm_uc μ 94 (jm_u1 (μ 94) 10 2) → Q [.inl (-1000012)] μ2) : cV X (d + 2) 198 [.inr (.inr 94), .inl r, .inl a] μ Q := by
  refine jv_enter (d := d + 1) jm_p_X10_noItems [some (.inr (.inr 94)), some (.inl r), some (.inl a)] rfl rfl rfl (Nat.le_of_ble_eq_true rfl) rfl rfl ?_
  refine jv_aload_n rfl rfl rfl (by decide) ?_
  refine jv_getr (w := 98) rfl rfl rfl ⟨by decide, rfl⟩ rfl rfl ?_
  refine jv_iload_n rfl rfl rfl ?_
  refine jv_iaload rfl rfl (by decide) rfl ⟨by omega, by omega⟩ ?_
  refine jv_if_ge rfl rfl rfl (fun c4 => ?_) (fun c4 => ?_)
  · refine jv_aload_n rfl rfl rfl (by decide) ?_
    refine jv_iload_n rfl rfl rfl ?_
    refine jv_iload_n rfl rfl rfl ?_
    refine jv_aload_n rfl rfl rfl (by decide) ?_
    refine jv_getr (w := 95) rfl rfl rfl ⟨by decide, rfl⟩ rfl rfl ?_
    refine jv_iconst rfl rfl ?_
    refine jv_iaload rfl rfl (by decide) rfl ⟨by omega, by omega⟩ ?_
    refine jv_callV3 rfl rfl rfl rfl ⟨by decide, rfl⟩ (Nat.le_of_ble_eq_true rfl) (mo_isSpan (by omega) (by omega) (by omega) (by omega) (fun b16 => ?_) (fun b16 => ?_))
    · show jV _ _ jm_p_X10_noItems _ 17 [some (.inr (.inr 94)), some (.inl r), some (.inl a)] [.inl 1] μ
      refine jv_if_eqF rfl rfl (by decide) ?_
      refine jv_iconst rfl rfl ?_
      refine jv_goto rfl rfl ?_
      refine jv_ireturn rfl (Or.inl rfl) ?_
      exact k0 (by omega) b16
    · show jV _ _ jm_p_X10_noItems _ 17 [some (.inr (.inr 94)), some (.inl r), some (.inl a)] [.inl 0] μ
      refine jv_if_eqT rfl rfl (by decide) ?_
      refine jv_aload_n rfl rfl rfl (by decide) ?_
      refine jv_iconst rfl rfl ?_
      refine jv_callV1 rfl rfl rfl rfl ⟨by decide, rfl⟩ (Nat.le_of_ble_eq_true rfl) (mo_find (by omega) (fun μ22 eμ22 => ?_))
      show jV _ _ jm_p_X10_noItems _ 23 [some (.inr (.inr 94)), some (.inl r), some (.inl a)] [.inl (-1000010 - 2)] μ22
      refine jv_ireturn rfl (Or.inl rfl) ?_
      exact k2 (by omega) b16 _ eμ22
  · refine jv_aload_n rfl rfl rfl (by decide) ?_
    refine jv_iconst rfl rfl ?_
    refine jv_callV1 rfl rfl rfl rfl ⟨by decide, rfl⟩ (Nat.le_of_ble_eq_true rfl) (mo_find (by omega) (fun μ7 eμ7 => ?_))
    show jV _ _ jm_p_X10_noItems _ 8 [some (.inr (.inr 94)), some (.inl r), some (.inl a)] [.inl (-1000010 - 1)] μ7
    refine jv_goto rfl rfl ?_
    refine jv_ireturn rfl (Or.inl rfl) ?_
    exact k1 (by omega) _ eμ7
set_option maxRecDepth 10000 in
theorem mo_isSo_l {X : jm_X} {d : Nat} {Q : jv_P} {μ : jm_M} {c r a n0 : Int} {T g : Int → Int} (hr : 0 ≤ r ∧ r < 8) (ha : 0 ≤ a ∧ a + n0 ≤ 40) (n4 : n0 ≤ 4) (hn : μ 95 0 = n0) (hT : jT μ T) (hw : jt_wf T) (hg : ∀ j, 0 ≤ j → j < 40 → μ 99 (40 * r + j) = g j) (k1 : (∀ m, 0 ≤ m → m < n0 → jt_lies T m = g (a + m)) → Q [.inl 1] μ) (k0 : ¬ (∀ m, 0 ≤ m → m < n0 → jt_lies T m = g (a + m)) → Q [.inl 0] μ) : ∀ (n : Nat) (y w : Int), 0 ≤ w → w ≤ n0 → n0 - w < n → ((y = 1 ∧ ∀ m, 0 ≤ m → m < w → jt_lies T m = g (a + m)) ∨ (y = 0 ∧ ¬ ∀ m, 0 ≤ m → m < n0 → jt_lies T m = g (a + m))) → jV X (d + 1) jm_p_X10_isSo Q 9 [some (.inr (.inr 94)), some (.inl c), some (.inl r), some (.inl a), some (.inl y), some (.inl w)] [] μ := by
  intro n
  induction n with
  | zero => intro y w x0 x1 xn hv; exfalso; omega
  | succ n ih =>
    intro y w x0 x1 xn hv
    refine jv_iload rfl rfl rfl ?_
    refine jv_aload_n rfl rfl rfl (by decide) ?_
    refine jv_getr (w := 95) rfl rfl rfl ⟨by decide, rfl⟩ rfl rfl ?_
    refine jv_iconst rfl rfl ?_
    refine jv_iaload rfl rfl (by decide) rfl ⟨by omega, by omega⟩ ?_
    refine jv_icmp_ge rfl rfl rfl (fun c14 => ?_) (fun c14 => ?_)
    · refine jv_iload rfl rfl rfl ?_
      refine jv_ireturn rfl (Or.inr ⟨rfl, by omega⟩) ?_
      rcases hv with ⟨e1, h1⟩ | ⟨e1, h1⟩
      · rw [e1]
        exact k1 (fun m m0 m1 => h1 m m0 (by omega))
      · rw [e1]
        exact k0 h1
    · have q2 := hg (a + w) (by omega) (by omega)
      rw [← Int.add_assoc] at q2
      refine jv_iload rfl rfl rfl ?_
      refine jv_if_eq rfl rfl rfl (fun c16 => ?_) (fun c16 => ?_)
      · refine jv_iconst rfl rfl ?_
        refine jv_istoreK (L2 := [some (.inr (.inr 94)), some (.inl c), some (.inl r), some (.inl a), some (.inl 0), some (.inl w)]) rfl rfl rfl ?_
        refine jv_iinc (fun x => [some (.inr (.inr 94)), some (.inl c), some (.inl r), some (.inl a), some (.inl 0), some (.inl x)]) rfl rfl rfl ⟨by omega, by omega⟩ (fun _ => rfl) (fun x5_36 ex5_36 => ?_)
        refine jv_goto rfl rfl ?_
        refine ih 0 x5_36 (by omega) (by omega) (by omega) ?_
        rcases hv with ⟨e1, h1⟩ | ⟨e1, h1⟩
        · refine Or.inr ⟨rfl, fun q => ?_⟩
          have q3 := q w (by omega) (by omega)
          omega
        · exact Or.inr ⟨rfl, h1⟩
      · refine jv_aload_n rfl rfl rfl (by decide) ?_
        refine jv_sipush rfl rfl ?_
        refine jv_iload rfl rfl rfl ?_
        refine jv_callV2 rfl rfl rfl rfl ⟨by decide, rfl⟩ (Nat.le_of_ble_eq_true rfl) (mo_liesT hT (by omega) hw ?_)
        show jV _ _ jm_p_X10_isSo _ 21 [some (.inr (.inr 94)), some (.inl c), some (.inl r), some (.inl a), some (.inl y), some (.inl w)] [.inl (jt_lies T w)] μ
        refine jv_aload_n rfl rfl rfl (by decide) ?_
        refine jv_getr (w := 99) rfl rfl rfl ⟨by decide, rfl⟩ rfl rfl ?_
        refine jv_bipush rfl rfl ?_
        refine jv_iload_n rfl rfl rfl ?_
        refine jv_imul rfl rfl ⟨by omega, by omega⟩ ?_
        refine jv_iload_n rfl rfl rfl ?_
        refine jv_iadd rfl rfl ⟨by omega, by omega⟩ ?_
        refine jv_iload rfl rfl rfl ?_
        refine jv_iadd rfl rfl ⟨by omega, by omega⟩ ?_
        refine jv_iaload rfl rfl (by decide) rfl ⟨by omega, by omega⟩ ?_
        refine jv_icmp_ne rfl rfl rfl (fun c31 => ?_) (fun c31 => ?_)
        · refine jv_iconst rfl rfl ?_
          refine jv_istoreK (L2 := [some (.inr (.inr 94)), some (.inl c), some (.inl r), some (.inl a), some (.inl 0), some (.inl w)]) rfl rfl rfl ?_
          refine jv_iinc (fun x => [some (.inr (.inr 94)), some (.inl c), some (.inl r), some (.inl a), some (.inl 0), some (.inl x)]) rfl rfl rfl ⟨by omega, by omega⟩ (fun _ => rfl) (fun x5_36_1 ex5_36_1 => ?_)
          refine jv_goto rfl rfl ?_
          refine ih 0 x5_36_1 (by omega) (by omega) (by omega) ?_
          rcases hv with ⟨e1, h1⟩ | ⟨e1, h1⟩
          · refine Or.inr ⟨rfl, fun q => ?_⟩
            have q3 := q w (by omega) (by omega)
            omega
          · exact Or.inr ⟨rfl, h1⟩
        · refine jv_iconst rfl rfl ?_
          refine jv_goto rfl rfl ?_
          refine jv_istoreK (L2 := [some (.inr (.inr 94)), some (.inl c), some (.inl r), some (.inl a), some (.inl 1), some (.inl w)]) rfl rfl rfl ?_
          refine jv_iinc (fun x => [some (.inr (.inr 94)), some (.inl c), some (.inl r), some (.inl a), some (.inl 1), some (.inl x)]) rfl rfl rfl ⟨by omega, by omega⟩ (fun _ => rfl) (fun x5_36_2 ex5_36_2 => ?_)
          refine jv_goto rfl rfl ?_
          refine ih 1 x5_36_2 (by omega) (by omega) (by omega) ?_
          rcases hv with ⟨e1, h1⟩ | ⟨e1, h1⟩
          · refine Or.inl ⟨rfl, fun m m0 m1 => ?_⟩
            by_cases hm : m < w
            · exact h1 m m0 hm
            · rw [show m = w by omega]
              omega
          · exfalso; omega
set_option maxRecDepth 10000 in
theorem mo_isSo {X : jm_X} {d : Nat} {Q : jv_P} {μ : jm_M} {c r a n0 : Int} {T g : Int → Int} (hr : 0 ≤ r ∧ r < 8) (ha : 0 ≤ a ∧ a + n0 ≤ 40) (hn0 : 0 ≤ n0 ∧ n0 ≤ 4) (hn : μ 95 0 = n0) (hT : jT μ T) (hc : 0 ≤ c ∧ c < 6) (hw : jt_wf T) (hcf : jt_cf T 100000) (hg : ∀ j, 0 ≤ j → j < 40 → μ 99 (40 * r + j) = g j) (k1 : ∀ μ2, jb_so T c g a n0 → jr μ μ2 → Q [.inl 1] μ2) (k0 : ∀ μ2, ¬ jb_so T c g a n0 → jr μ μ2 → Q [.inl 0] μ2) : cV X (d + 4) 199 [.inr (.inr 94), .inl c, .inl r, .inl a] μ Q := by
  refine jv_enter (d := d + 3) jm_p_X10_isSo [some (.inr (.inr 94)), some (.inl c), some (.inl r), some (.inl a), none, none] rfl rfl rfl (Nat.le_of_ble_eq_true rfl) rfl rfl ?_
  refine jv_aload_n rfl rfl rfl (by decide) ?_
  refine jv_sipush rfl rfl ?_
  refine jv_iload_n rfl rfl rfl ?_
  refine jv_callV2 rfl rfl rfl rfl ⟨by decide, rfl⟩ (Nat.le_of_ble_eq_true rfl) (mo_comesT hT hc hw hcf (fun μ3 fμ3 tμ3 => ?_))
  show jV _ _ jm_p_X10_isSo _ 4 [some (.inr (.inr 94)), some (.inl c), some (.inl r), some (.inl a), none, none] [.inl (jt_y T c (T 0).toNat)] μ3
  refine jv_pop rfl rfl ?_
  refine jv_iconst rfl rfl ?_
  refine jv_istoreK (L2 := [some (.inr (.inr 94)), some (.inl c), some (.inl r), some (.inl a), some (.inl 1), none]) rfl rfl rfl ?_
  refine jv_iconst rfl rfl ?_
  refine jv_istoreK (L2 := [some (.inr (.inr 94)), some (.inl c), some (.inl r), some (.inl a), some (.inl 1), some (.inl 0)]) rfl rfl rfl ?_
  exact mo_isSo_l hr ha hn0.2 (by rw [fμ3.2 0 (by omega)]; exact hn) tμ3 (jt_come_wf hw hc.1 hc.2) (fun j j0 j1 => by rw [fμ3.1 99 (by decide)]; exact hg j j0 j1) (fun q => k1 _ q fμ3) (fun q => k0 _ q fμ3) 9 1 0 (by omega) (by omega) (by omega) (Or.inl ⟨rfl, fun m m0 m1 => by exfalso; omega⟩)
set_option maxRecDepth 10000 in
theorem mo_who_l {X : jm_X} {d : Nat} {Q : jv_P} {t g : Int → Int} {r a : Int} {μ0 : jm_M} (hU0 : jU μ0 t) (hw : jt_wf t) (hcf : jt_cf t 100000) (hr : 0 ≤ r ∧ r < 8) (ha : 0 ≤ a ∧ a + t 0 ≤ 40) (hg : ∀ j, 0 ≤ j → j < 40 → μ0 99 (40 * r + j) = g j) (k : ∀ s μ2 μ3, jb_is (fun c => jb_so t c g a (t 0)) 0 (t 1 - 0).toNat s → jr μ0 μ2 → μ3 = jm_uc μ2 94 (jm_u1 (μ2 94) 10 0) → Q [.inl s] μ3) : ∀ (n : Nat) (s w : Int) (μ : jm_M), 0 ≤ w → w ≤ t 1 → t 1 - w < n → jb_is (fun c => jb_so t c g a (t 0)) 0 (w - 0).toNat s → jr μ0 μ → jV X (d + 4) jm_p_X10_who Q 23 [some (.inr (.inr 94)), some (.inl r), some (.inl a), some (.inl 0), some (.inl s), some (.inl w)] [] μ := by
  intro n
  induction n with
  | zero => intro s w μ y0 y1 yn hs hf; exfalso; omega
  | succ n ih =>
    intro s w μ y0 y1 yn hs hf
    have hUμ := jU_jr hf hU0
    have u0μ := hUμ 0 (by decide) (by decide)
    have u1μ := hUμ 1 (by decide) (by decide)
    obtain ⟨w0, w1, w2, w3, w4, w6, w7, w8⟩ := id hw
    refine jv_iload rfl rfl rfl ?_
    refine jv_aload_n rfl rfl rfl (by decide) ?_
    refine jv_getr (w := 95) rfl rfl rfl ⟨by decide, rfl⟩ rfl rfl ?_
    refine jv_iconst rfl rfl ?_
    refine jv_iaload rfl rfl (by decide) rfl ⟨by omega, by omega⟩ ?_
    refine jv_icmp_ge rfl rfl rfl (fun c28 => ?_) (fun c28 => ?_)
    · refine jv_aload_n rfl rfl rfl (by decide) ?_
      refine jv_iload rfl rfl rfl ?_
      refine jv_callV1 rfl rfl rfl rfl ⟨by decide, rfl⟩ (Nat.le_of_ble_eq_true rfl) (mo_well (fun μ49 eμ49 => ?_))
      show jV _ _ jm_p_X10_who _ 50 [some (.inr (.inr 94)), some (.inl r), some (.inl a), some (.inl 0), some (.inl s), some (.inl w)] [.inl s] μ49
      refine jv_ireturn rfl (Or.inl rfl) ?_
      have hw : w = t 1 := by omega
      rw [hw] at hs
      exact k _ _ _ hs hf eμ49
    · refine jv_aload_n rfl rfl rfl (by decide) ?_
      refine jv_callV0 rfl rfl rfl rfl ⟨by decide, rfl⟩ (Nat.le_of_ble_eq_true rfl) (mo_layTried hUμ (fun μ30 fμ30 tμ30 => ?_))
      show jV _ _ jm_p_X10_who _ 31 [some (.inr (.inr 94)), some (.inl r), some (.inl a), some (.inl 0), some (.inl s), some (.inl w)] [] μ30
      have hUμ30 := jU_jr fμ30 hUμ
      have u0μ30 := hUμ30 0 (by decide) (by decide)
      have u1μ30 := hUμ30 1 (by decide) (by decide)
      refine jv_iload rfl rfl rfl ?_
      refine jv_aload_n rfl rfl rfl (by decide) ?_
      refine jv_iload rfl rfl rfl ?_
      refine jv_iload_n rfl rfl rfl ?_
      refine jv_iload_n rfl rfl rfl ?_
      refine jv_callV3 rfl rfl rfl rfl ⟨by decide, rfl⟩ (Nat.le_of_ble_eq_true rfl) (mo_isSo (n0 := t 0) (g := g) hr ha (by omega) u0μ30 tμ30 (by omega) hw hcf (fun j j0 j1 => by rw [fμ30.1 99 (by decide), hf.1 99 (by decide)]; exact hg j j0 j1) (fun μ36 bμ36 fμ36 => ?_) (fun μ36 bμ36 fμ36 => ?_))
      · show jV _ _ jm_p_X10_who _ 37 [some (.inr (.inr 94)), some (.inl r), some (.inl a), some (.inl 0), some (.inl s), some (.inl w)] [.inl 1, .inl s] μ36
        refine jv_if_eqF rfl rfl (by decide) ?_
        refine jv_iconst rfl rfl ?_
        refine jv_iload rfl rfl rfl ?_
        refine jv_ishl rfl rfl ?_
        refine jv_goto rfl rfl ?_
        refine jv_ior rfl rfl ?_
        refine jv_istore (fun x => [some (.inr (.inr 94)), some (.inl r), some (.inl a), some (.inl 0), some (.inl x), some (.inl w)]) rfl rfl (fun _ => rfl) (fun x4_44 ex4_44 => ?_)
        refine jv_iinc (fun x => [some (.inr (.inr 94)), some (.inl r), some (.inl a), some (.inl 0), some (.inl x4_44), some (.inl x)]) rfl rfl rfl ⟨by omega, by omega⟩ (fun _ => rfl) (fun x5_45 ex5_45 => ?_)
        refine jv_goto rfl rfl ?_
        refine ih x4_44 x5_45 μ36 (by omega) (by omega) (by omega) ?_ ?_
        · rw [ex5_45, show (w + 1 - 0).toNat = (w - 0).toNat + 1 by omega]
          refine ⟨s, hs, ?_⟩
          rw [show 0 + (((w - 0).toNat : Nat) : Int) = w by omega]
          first
          | exact Or.inl ⟨by exact bμ36, ex4_44⟩
          | exact Or.inr ⟨by exact bμ36, by rw [ex4_44]; exact jm_or_0 (jb_is_r _ _ hs)⟩
        · exact (jr_tr (jr_tr hf fμ30) fμ36)
      · show jV _ _ jm_p_X10_who _ 37 [some (.inr (.inr 94)), some (.inl r), some (.inl a), some (.inl 0), some (.inl s), some (.inl w)] [.inl 0, .inl s] μ36
        refine jv_if_eqT rfl rfl (by decide) ?_
        refine jv_iconst rfl rfl ?_
        refine jv_ior rfl rfl ?_
        refine jv_istore (fun x => [some (.inr (.inr 94)), some (.inl r), some (.inl a), some (.inl 0), some (.inl x), some (.inl w)]) rfl rfl (fun _ => rfl) (fun x4_44_1 ex4_44_1 => ?_)
        refine jv_iinc (fun x => [some (.inr (.inr 94)), some (.inl r), some (.inl a), some (.inl 0), some (.inl x4_44_1), some (.inl x)]) rfl rfl rfl ⟨by omega, by omega⟩ (fun _ => rfl) (fun x5_45_1 ex5_45_1 => ?_)
        refine jv_goto rfl rfl ?_
        refine ih x4_44_1 x5_45_1 μ36 (by omega) (by omega) (by omega) ?_ ?_
        · rw [ex5_45_1, show (w + 1 - 0).toNat = (w - 0).toNat + 1 by omega]
          refine ⟨s, hs, ?_⟩
          rw [show 0 + (((w - 0).toNat : Nat) : Int) = w by omega]
          first
          | exact Or.inl ⟨by exact bμ36, ex4_44_1⟩
          | exact Or.inr ⟨by exact bμ36, by rw [ex4_44_1]; exact jm_or_0 (jb_is_r _ _ hs)⟩
        · exact (jr_tr (jr_tr hf fμ30) fμ36)
set_option maxRecDepth 10000 in
set_option maxHeartbeats 1000000 in
theorem pr_who {X : jm_X} {r : Int} {a : Int} (r_r : jm_r r) (r_a : jm_r a) : jp X 112 200 [.inl r, .inl a] := by
  intro μ hI
  obtain ⟨⟨hit, hlan⟩, ⟨ht0, ht1, ht2⟩, ⟨hr0, hr1, hr2⟩, ⟨hst, hfa⟩, htown, hidle, himg, hpast⟩ := id hI
  obtain ⟨hwf, hcf, hkd, hmat, hrel, hh01, hhot, hnc⟩ := id htown
  obtain ⟨⟨r0, r1, r2, r3⟩, rm, rz, rc⟩ := id hrel
  obtain ⟨w0, w1, w2, w3, w4, w6, w7, w8⟩ := id hwf
  have hcf5 : jt_cf (μ 95) 100000 := fun c a b => by have q := hcf c a b; omega
  have hHμ := jH_of hI
  have hl8 := hlan r
  refine jv_enter (d := 199) jm_p_X9_who [some (.inr (.inr 0)), some (.inl r), some (.inl a), none] rfl rfl rfl (Nat.le_of_ble_eq_true rfl) rfl rfl ?_
  refine jv_aload_n rfl rfl rfl (by decide) ?_
  refine jv_callV0 rfl rfl rfl rfl ⟨by decide, rfl⟩ (Nat.le_of_ble_eq_true rfl) (cl_noHotel (fun b1 => ?_) (fun b1 => ?_))
  · show jV _ _ jm_p_X9_who _ 2 [some (.inr (.inr 0)), some (.inl r), some (.inl a), none] [.inl 1] μ
    refine jv_if_eqF rfl rfl (by decide) ?_
    refine jv_ldc rfl rfl ?_
    refine jv_ireturn rfl (Or.inl rfl) ?_
    refine ⟨_, rfl, ?_⟩
    have fc : jf μ μ := jf_id μ
    have hUμ : jU μ (μ 95) := jU_jf fc
    have q94μ : μ 94 1 = μ 94 1 := by rw [fc 94 (by omega)]
    refine jv_enter (d := 199) jm_p_X10_who [some (.inr (.inr 94)), some (.inl r), some (.inl a), none, none, none] rfl rfl rfl (Nat.le_of_ble_eq_true rfl) rfl rfl ?_
    refine jv_aload_n rfl rfl rfl (by decide) ?_
    refine jv_geti rfl rfl rfl ⟨by decide, rfl⟩ (by decide) ?_
    refine jv_if_ne rfl rfl rfl (fun c2 => ?_) (fun c2 => ?_)
    · first
      | (exfalso; omega)
      | skip
        refine jv_iload_n rfl rfl rfl ?_
        refine jv_callS1 rfl rfl rfl (Nat.le_of_ble_eq_true rfl) (mo_isRow (fun b6 => ?_) (fun b6 => ?_))
        · first
          | (exfalso; omega)
          | skip
            show jV _ _ jm_p_X10_who _ 7 [some (.inr (.inr 94)), some (.inl r), some (.inl a), none, none, none] [.inl 1] μ
            refine jv_if_neT rfl rfl (by decide) ?_
            refine jv_aload_n rfl rfl rfl (by decide) ?_
            refine jv_iload_n rfl rfl rfl ?_
            refine jv_iload_n rfl rfl rfl ?_
            refine jv_callV2 rfl rfl rfl rfl ⟨by decide, rfl⟩ (Nat.le_of_ble_eq_true rfl) (mo_noItems (by omega) (by omega) (by omega) (by omega) (fun h13_0 ν13 eν13 => ?_) (fun h13_0 h13_1 => ?_) (fun h13_0 h13_1 ν13_1 eν13_1 => ?_))
            · first
              | (exfalso; omega)
              | skip
                show jV _ _ jm_p_X10_who _ 14 [some (.inr (.inr 94)), some (.inl r), some (.inl a), none, none, none] [.inl (-1000011)] ν13
                refine jv_istore_nK (L2 := [some (.inr (.inr 94)), some (.inl r), some (.inl a), some (.inl (-1000011)), none, none]) rfl rfl rfl ?_
                refine jv_iload_n rfl rfl rfl ?_
                refine jv_if_eqF rfl rfl (by decide) ?_
                refine jv_iload_n rfl rfl rfl ?_
                refine jv_ireturn rfl (Or.inl rfl) ?_
                exact ⟨jv_one (by omega), by exfalso; omega⟩
            · first
              | (exfalso; omega)
              | skip
                show jV _ _ jm_p_X10_who _ 14 [some (.inr (.inr 94)), some (.inl r), some (.inl a), none, none, none] [.inl 0] μ
                refine jv_istore_nK (L2 := [some (.inr (.inr 94)), some (.inl r), some (.inl a), some (.inl 0), none, none]) rfl rfl rfl ?_
                refine jv_iload_n rfl rfl rfl ?_
                refine jv_if_eqT rfl rfl (by decide) ?_
                refine jv_iconst rfl rfl ?_
                refine jv_istoreK (L2 := [some (.inr (.inr 94)), some (.inl r), some (.inl a), some (.inl 0), some (.inl 0), none]) rfl rfl rfl ?_
                refine jv_iconst rfl rfl ?_
                refine jv_istoreK (L2 := [some (.inr (.inr 94)), some (.inl r), some (.inl a), some (.inl 0), some (.inl 0), some (.inl 0)]) rfl rfl rfl ?_
                exfalso; omega
            · first
              | (exfalso; omega)
              | skip
                show jV _ _ jm_p_X10_who _ 14 [some (.inr (.inr 94)), some (.inl r), some (.inl a), none, none, none] [.inl (-1000012)] ν13_1
                refine jv_istore_nK (L2 := [some (.inr (.inr 94)), some (.inl r), some (.inl a), some (.inl (-1000012)), none, none]) rfl rfl rfl ?_
                refine jv_iload_n rfl rfl rfl ?_
                refine jv_if_eqF rfl rfl (by decide) ?_
                refine jv_iload_n rfl rfl rfl ?_
                refine jv_ireturn rfl (Or.inl rfl) ?_
                exact ⟨jv_one (by omega), by exfalso; omega⟩
        · first
          | (exfalso; omega)
          | skip
            show jV _ _ jm_p_X10_who _ 7 [some (.inr (.inr 94)), some (.inl r), some (.inl a), none, none, none] [.inl 0] μ
            refine jv_if_neF rfl rfl (by decide) ?_
            refine jv_ldc rfl rfl ?_
            refine jv_ireturn rfl (Or.inl rfl) ?_
            exact ⟨jv_one (by omega), hI⟩
    · first
      | (exfalso; omega)
      | skip
        refine jv_ldc rfl rfl ?_
        refine jv_ireturn rfl (Or.inl rfl) ?_
        exact ⟨jv_one (by omega), hI⟩
  · show jV _ _ jm_p_X9_who _ 2 [some (.inr (.inr 0)), some (.inl r), some (.inl a), none] [.inl 0] μ
    refine jv_if_eqT rfl rfl (by decide) ?_
    refine jv_iload_n rfl rfl rfl ?_
    refine jv_callS1 rfl rfl rfl (Nat.le_of_ble_eq_true rfl) (cl_noRow (fun b6 => ?_) (fun b6 => ?_))
    · show jV _ _ jm_p_X9_who _ 7 [some (.inr (.inr 0)), some (.inl r), some (.inl a), none] [.inl 1] μ
      refine jv_if_eqF rfl rfl (by decide) ?_
      refine jv_ldc rfl rfl ?_
      refine jv_ireturn rfl (Or.inl rfl) ?_
      refine ⟨_, rfl, ?_⟩
      have fc : jf μ μ := jf_id μ
      have hUμ : jU μ (μ 95) := jU_jf fc
      have q94μ : μ 94 1 = μ 94 1 := by rw [fc 94 (by omega)]
      refine jv_enter (d := 199) jm_p_X10_who [some (.inr (.inr 94)), some (.inl r), some (.inl a), none, none, none] rfl rfl rfl (Nat.le_of_ble_eq_true rfl) rfl rfl ?_
      refine jv_aload_n rfl rfl rfl (by decide) ?_
      refine jv_geti rfl rfl rfl ⟨by decide, rfl⟩ (by decide) ?_
      refine jv_if_ne rfl rfl rfl (fun c2 => ?_) (fun c2 => ?_)
      · first
        | (exfalso; omega)
        | skip
          refine jv_iload_n rfl rfl rfl ?_
          refine jv_callS1 rfl rfl rfl (Nat.le_of_ble_eq_true rfl) (mo_isRow (fun b6 => ?_) (fun b6 => ?_))
          · first
            | (exfalso; omega)
            | skip
              show jV _ _ jm_p_X10_who _ 7 [some (.inr (.inr 94)), some (.inl r), some (.inl a), none, none, none] [.inl 1] μ
              refine jv_if_neT rfl rfl (by decide) ?_
              refine jv_aload_n rfl rfl rfl (by decide) ?_
              refine jv_iload_n rfl rfl rfl ?_
              refine jv_iload_n rfl rfl rfl ?_
              refine jv_callV2 rfl rfl rfl rfl ⟨by decide, rfl⟩ (Nat.le_of_ble_eq_true rfl) (mo_noItems (by omega) (by omega) (by omega) (by omega) (fun h13_0 ν13 eν13 => ?_) (fun h13_0 h13_1 => ?_) (fun h13_0 h13_1 ν13_1 eν13_1 => ?_))
              · first
                | (exfalso; omega)
                | skip
                  show jV _ _ jm_p_X10_who _ 14 [some (.inr (.inr 94)), some (.inl r), some (.inl a), none, none, none] [.inl (-1000011)] ν13
                  refine jv_istore_nK (L2 := [some (.inr (.inr 94)), some (.inl r), some (.inl a), some (.inl (-1000011)), none, none]) rfl rfl rfl ?_
                  refine jv_iload_n rfl rfl rfl ?_
                  refine jv_if_eqF rfl rfl (by decide) ?_
                  refine jv_iload_n rfl rfl rfl ?_
                  refine jv_ireturn rfl (Or.inl rfl) ?_
                  exact ⟨jv_one (by omega), by exfalso; omega⟩
              · first
                | (exfalso; omega)
                | skip
                  show jV _ _ jm_p_X10_who _ 14 [some (.inr (.inr 94)), some (.inl r), some (.inl a), none, none, none] [.inl 0] μ
                  refine jv_istore_nK (L2 := [some (.inr (.inr 94)), some (.inl r), some (.inl a), some (.inl 0), none, none]) rfl rfl rfl ?_
                  refine jv_iload_n rfl rfl rfl ?_
                  refine jv_if_eqT rfl rfl (by decide) ?_
                  refine jv_iconst rfl rfl ?_
                  refine jv_istoreK (L2 := [some (.inr (.inr 94)), some (.inl r), some (.inl a), some (.inl 0), some (.inl 0), none]) rfl rfl rfl ?_
                  refine jv_iconst rfl rfl ?_
                  refine jv_istoreK (L2 := [some (.inr (.inr 94)), some (.inl r), some (.inl a), some (.inl 0), some (.inl 0), some (.inl 0)]) rfl rfl rfl ?_
                  exfalso; omega
              · first
                | (exfalso; omega)
                | skip
                  show jV _ _ jm_p_X10_who _ 14 [some (.inr (.inr 94)), some (.inl r), some (.inl a), none, none, none] [.inl (-1000012)] ν13_1
                  refine jv_istore_nK (L2 := [some (.inr (.inr 94)), some (.inl r), some (.inl a), some (.inl (-1000012)), none, none]) rfl rfl rfl ?_
                  refine jv_iload_n rfl rfl rfl ?_
                  refine jv_if_eqF rfl rfl (by decide) ?_
                  refine jv_iload_n rfl rfl rfl ?_
                  refine jv_ireturn rfl (Or.inl rfl) ?_
                  exact ⟨jv_one (by omega), by exfalso; omega⟩
          · first
            | (exfalso; omega)
            | skip
              show jV _ _ jm_p_X10_who _ 7 [some (.inr (.inr 94)), some (.inl r), some (.inl a), none, none, none] [.inl 0] μ
              refine jv_if_neF rfl rfl (by decide) ?_
              refine jv_ldc rfl rfl ?_
              refine jv_ireturn rfl (Or.inl rfl) ?_
              exact ⟨jv_one (by omega), hI⟩
      · first
        | (exfalso; omega)
        | skip
          refine jv_ldc rfl rfl ?_
          refine jv_ireturn rfl (Or.inl rfl) ?_
          exact ⟨jv_one (by omega), hI⟩
    · show jV _ _ jm_p_X9_who _ 7 [some (.inr (.inr 0)), some (.inl r), some (.inl a), none] [.inl 0] μ
      refine jv_if_eqT rfl rfl (by decide) ?_
      refine jv_aload_n rfl rfl rfl (by decide) ?_
      refine jv_iload_n rfl rfl rfl ?_
      refine jv_iload_n rfl rfl rfl ?_
      refine jv_callV2 rfl rfl rfl rfl ⟨by decide, rfl⟩ (Nat.le_of_ble_eq_true rfl) (cl_matRow (by omega) (by omega) (by omega) (fun h13_0 => ?_) (fun h13_0 h13_1 => ?_) (fun h13_0 h13_1 => ?_))
      · show jV _ _ jm_p_X9_who _ 14 [some (.inr (.inr 0)), some (.inl r), some (.inl a), none] [.inl 1] μ
        refine jv_istore_nK (L2 := [some (.inr (.inr 0)), some (.inl r), some (.inl a), some (.inl 1)]) rfl rfl rfl ?_
        refine jv_iload_n rfl rfl rfl ?_
        refine jv_if_eqF rfl rfl (by decide) ?_
        refine jv_aload_n rfl rfl rfl (by decide) ?_
        refine jv_iload_n rfl rfl rfl ?_
        refine jv_callV1 rfl rfl rfl rfl ⟨by decide, rfl⟩ (Nat.le_of_ble_eq_true rfl) (cl_found (by omega) (fun μ19 eμ19 => ?_))
        show jV _ _ jm_p_X9_who _ 20 [some (.inr (.inr 0)), some (.inl r), some (.inl a), some (.inl 1)] [.inl (-1000010 - 1)] μ19
        refine jv_ireturn rfl (Or.inl rfl) ?_
        refine ⟨_, rfl, ?_⟩
        have g0 : μ19 95 = μ 95 := by rw [eμ19]; rfl
        have g00 : μ19 95 0 = μ 95 0 := by rw [g0]
        have g01 : μ19 95 1 = μ 95 1 := by rw [g0]
        have g98 : μ19 98 r = μ 98 r := by rw [eμ19]; rfl
        have g94 : μ19 94 1 = μ 94 1 := by rw [eμ19]; rfl
        refine jv_enter (d := 199) jm_p_X10_who [some (.inr (.inr 94)), some (.inl r), some (.inl a), none, none, none] rfl rfl rfl (Nat.le_of_ble_eq_true rfl) rfl rfl ?_
        refine jv_aload_n rfl rfl rfl (by decide) ?_
        refine jv_geti rfl rfl rfl ⟨by decide, rfl⟩ (by decide) ?_
        refine jv_if_ne rfl rfl rfl (fun c2 => ?_) (fun c2 => ?_)
        · first
          | (exfalso; omega)
          | skip
            refine jv_iload_n rfl rfl rfl ?_
            refine jv_callS1 rfl rfl rfl (Nat.le_of_ble_eq_true rfl) (mo_isRow (fun b6 => ?_) (fun b6 => ?_))
            · first
              | (exfalso; omega)
              | skip
                show jV _ _ jm_p_X10_who _ 7 [some (.inr (.inr 94)), some (.inl r), some (.inl a), none, none, none] [.inl 1] μ19
                refine jv_if_neT rfl rfl (by decide) ?_
                refine jv_aload_n rfl rfl rfl (by decide) ?_
                refine jv_iload_n rfl rfl rfl ?_
                refine jv_iload_n rfl rfl rfl ?_
                refine jv_callV2 rfl rfl rfl rfl ⟨by decide, rfl⟩ (Nat.le_of_ble_eq_true rfl) (mo_noItems (by omega) (by omega) (by omega) (by omega) (fun h13_0 ν13 eν13 => ?_) (fun h13_0 h13_1 => ?_) (fun h13_0 h13_1 ν13_1 eν13_1 => ?_))
                · first
                  | (exfalso; omega)
                  | skip
                    show jV _ _ jm_p_X10_who _ 14 [some (.inr (.inr 94)), some (.inl r), some (.inl a), none, none, none] [.inl (-1000011)] ν13
                    refine jv_istore_nK (L2 := [some (.inr (.inr 94)), some (.inl r), some (.inl a), some (.inl (-1000011)), none, none]) rfl rfl rfl ?_
                    refine jv_iload_n rfl rfl rfl ?_
                    refine jv_if_eqF rfl rfl (by decide) ?_
                    refine jv_iload_n rfl rfl rfl ?_
                    refine jv_ireturn rfl (Or.inl rfl) ?_
                    exact ⟨jv_one (by omega), jI_find hI eμ19 eν13⟩
                · first
                  | (exfalso; omega)
                  | skip
                    show jV _ _ jm_p_X10_who _ 14 [some (.inr (.inr 94)), some (.inl r), some (.inl a), none, none, none] [.inl 0] μ19
                    refine jv_istore_nK (L2 := [some (.inr (.inr 94)), some (.inl r), some (.inl a), some (.inl 0), none, none]) rfl rfl rfl ?_
                    refine jv_iload_n rfl rfl rfl ?_
                    refine jv_if_eqT rfl rfl (by decide) ?_
                    refine jv_iconst rfl rfl ?_
                    refine jv_istoreK (L2 := [some (.inr (.inr 94)), some (.inl r), some (.inl a), some (.inl 0), some (.inl 0), none]) rfl rfl rfl ?_
                    refine jv_iconst rfl rfl ?_
                    refine jv_istoreK (L2 := [some (.inr (.inr 94)), some (.inl r), some (.inl a), some (.inl 0), some (.inl 0), some (.inl 0)]) rfl rfl rfl ?_
                    exfalso; omega
                · first
                  | (exfalso; omega)
                  | skip
                    show jV _ _ jm_p_X10_who _ 14 [some (.inr (.inr 94)), some (.inl r), some (.inl a), none, none, none] [.inl (-1000012)] ν13_1
                    refine jv_istore_nK (L2 := [some (.inr (.inr 94)), some (.inl r), some (.inl a), some (.inl (-1000012)), none, none]) rfl rfl rfl ?_
                    refine jv_iload_n rfl rfl rfl ?_
                    refine jv_if_eqF rfl rfl (by decide) ?_
                    refine jv_iload_n rfl rfl rfl ?_
                    refine jv_ireturn rfl (Or.inl rfl) ?_
                    exact ⟨jv_one (by omega), jI_find hI eμ19 eν13_1⟩
            · first
              | (exfalso; omega)
              | skip
                show jV _ _ jm_p_X10_who _ 7 [some (.inr (.inr 94)), some (.inl r), some (.inl a), none, none, none] [.inl 0] μ19
                refine jv_if_neF rfl rfl (by decide) ?_
                refine jv_ldc rfl rfl ?_
                refine jv_ireturn rfl (Or.inl rfl) ?_
                exact ⟨jv_one (by omega), by exfalso; omega⟩
        · first
          | (exfalso; omega)
          | skip
            refine jv_ldc rfl rfl ?_
            refine jv_ireturn rfl (Or.inl rfl) ?_
            exact ⟨jv_one (by omega), by exfalso; omega⟩
      · show jV _ _ jm_p_X9_who _ 14 [some (.inr (.inr 0)), some (.inl r), some (.inl a), none] [.inl 0] μ
        refine jv_istore_nK (L2 := [some (.inr (.inr 0)), some (.inl r), some (.inl a), some (.inl 0)]) rfl rfl rfl ?_
        refine jv_iload_n rfl rfl rfl ?_
        refine jv_if_eqT rfl rfl (by decide) ?_
        refine jv_aload_n rfl rfl rfl (by decide) ?_
        refine jv_aload_n rfl rfl rfl (by decide) ?_
        refine jv_getr (w := 49) rfl rfl rfl ⟨by decide, rfl⟩ rfl rfl ?_
        refine jv_aload_n rfl rfl rfl (by decide) ?_
        refine jv_getr (w := 7) rfl rfl rfl ⟨by decide, rfl⟩ rfl rfl ?_
        refine jv_aload_n rfl rfl rfl (by decide) ?_
        refine jv_getr (w := 1) rfl rfl rfl ⟨by decide, rfl⟩ rfl rfl ?_
        refine jv_iload_n rfl rfl rfl ?_
        refine jv_iload_n rfl rfl rfl ?_
        refine jv_callV4 rfl rfl rfl rfl ⟨by decide, rfl⟩ (Nat.le_of_ble_eq_true rfl) (cl_culprits (g := fun j => μ 99 (40 * r + j)) hHμ (by omega) (by omega) (fun j j0 j1 => hit _ (by omega) (by omega)) (fun sμ30 μ30 bμ30 fμ30 => ?_))
        show jV _ _ jm_p_X9_who _ 31 [some (.inr (.inr 0)), some (.inl r), some (.inl a), some (.inl 0)] [.inl sμ30, .inr (.inr 0)] μ30
        refine jv_callV1 rfl rfl rfl rfl ⟨by decide, rfl⟩ (Nat.le_of_ble_eq_true rfl) (cl_unfound (fun μ31 eμ31 => ?_))
        show jV _ _ jm_p_X9_who _ 32 [some (.inr (.inr 0)), some (.inl r), some (.inl a), some (.inl 0)] [.inl sμ30] μ31
        refine jv_ireturn rfl (Or.inl rfl) ?_
        refine ⟨_, rfl, ?_⟩
        have fc : jf μ μ30 := fμ30
        have g0 : ∀ z, z ≠ 0 → μ31 z = μ30 z := fun z q => by rw [eμ31, jm_off1 q]
        have hUμ31 : jU μ31 (μ 95) := fun j j0 j1 => by rw [g0 95 (by decide), fc 95 (by omega)]
        have g00 : μ31 95 0 = μ 95 0 := hUμ31 0 (by decide) (by decide)
        have g01 : μ31 95 1 = μ 95 1 := hUμ31 1 (by decide) (by decide)
        have g98 : μ31 98 r = μ 98 r := by rw [g0 98 (by decide), fc 98 (by omega)]
        have g94 : μ31 94 1 = μ 94 1 := by rw [g0 94 (by decide), fc 94 (by omega)]
        have g99 : μ31 99 = μ 99 := by rw [g0 99 (by decide), fc 99 (by omega)]
        refine jv_enter (d := 199) jm_p_X10_who [some (.inr (.inr 94)), some (.inl r), some (.inl a), none, none, none] rfl rfl rfl (Nat.le_of_ble_eq_true rfl) rfl rfl ?_
        refine jv_aload_n rfl rfl rfl (by decide) ?_
        refine jv_geti rfl rfl rfl ⟨by decide, rfl⟩ (by decide) ?_
        refine jv_if_ne rfl rfl rfl (fun c2 => ?_) (fun c2 => ?_)
        · first
          | (exfalso; omega)
          | skip
            refine jv_iload_n rfl rfl rfl ?_
            refine jv_callS1 rfl rfl rfl (Nat.le_of_ble_eq_true rfl) (mo_isRow (fun b6 => ?_) (fun b6 => ?_))
            · first
              | (exfalso; omega)
              | skip
                show jV _ _ jm_p_X10_who _ 7 [some (.inr (.inr 94)), some (.inl r), some (.inl a), none, none, none] [.inl 1] μ31
                refine jv_if_neT rfl rfl (by decide) ?_
                refine jv_aload_n rfl rfl rfl (by decide) ?_
                refine jv_iload_n rfl rfl rfl ?_
                refine jv_iload_n rfl rfl rfl ?_
                refine jv_callV2 rfl rfl rfl rfl ⟨by decide, rfl⟩ (Nat.le_of_ble_eq_true rfl) (mo_noItems (by omega) (by omega) (by omega) (by omega) (fun h13_0 ν13 eν13 => ?_) (fun h13_0 h13_1 => ?_) (fun h13_0 h13_1 ν13_1 eν13_1 => ?_))
                · first
                  | (exfalso; omega)
                  | skip
                    show jV _ _ jm_p_X10_who _ 14 [some (.inr (.inr 94)), some (.inl r), some (.inl a), none, none, none] [.inl (-1000011)] ν13
                    refine jv_istore_nK (L2 := [some (.inr (.inr 94)), some (.inl r), some (.inl a), some (.inl (-1000011)), none, none]) rfl rfl rfl ?_
                    refine jv_iload_n rfl rfl rfl ?_
                    refine jv_if_eqF rfl rfl (by decide) ?_
                    refine jv_iload_n rfl rfl rfl ?_
                    refine jv_ireturn rfl (Or.inl rfl) ?_
                    exact ⟨jv_one (by omega), by exfalso; omega⟩
                · first
                  | (exfalso; omega)
                  | skip
                    show jV _ _ jm_p_X10_who _ 14 [some (.inr (.inr 94)), some (.inl r), some (.inl a), none, none, none] [.inl 0] μ31
                    refine jv_istore_nK (L2 := [some (.inr (.inr 94)), some (.inl r), some (.inl a), some (.inl 0), none, none]) rfl rfl rfl ?_
                    refine jv_iload_n rfl rfl rfl ?_
                    refine jv_if_eqT rfl rfl (by decide) ?_
                    refine jv_iconst rfl rfl ?_
                    refine jv_istoreK (L2 := [some (.inr (.inr 94)), some (.inl r), some (.inl a), some (.inl 0), some (.inl 0), none]) rfl rfl rfl ?_
                    refine jv_iconst rfl rfl ?_
                    refine jv_istoreK (L2 := [some (.inr (.inr 94)), some (.inl r), some (.inl a), some (.inl 0), some (.inl 0), some (.inl 0)]) rfl rfl rfl ?_
                    refine mo_who_l hUμ31 hwf hcf5 (by omega) (by omega) (fun j j0 j1 => by rw [g99]) (fun s2 μz μy b2 fz ey => ?_) 9 0 0 μ31 (by omega) w1.1 (by omega) rfl (jr_id _)
                    exact ⟨jv_one (jb_is_one _ _ _ (fun _ _ _ => Iff.rfl) b2 bμ30), jI_pairW hI fc eμ31 fz ey⟩
                · first
                  | (exfalso; omega)
                  | skip
                    show jV _ _ jm_p_X10_who _ 14 [some (.inr (.inr 94)), some (.inl r), some (.inl a), none, none, none] [.inl (-1000012)] ν13_1
                    refine jv_istore_nK (L2 := [some (.inr (.inr 94)), some (.inl r), some (.inl a), some (.inl (-1000012)), none, none]) rfl rfl rfl ?_
                    refine jv_iload_n rfl rfl rfl ?_
                    refine jv_if_eqF rfl rfl (by decide) ?_
                    refine jv_iload_n rfl rfl rfl ?_
                    refine jv_ireturn rfl (Or.inl rfl) ?_
                    exact ⟨jv_one (by omega), by exfalso; omega⟩
            · first
              | (exfalso; omega)
              | skip
                show jV _ _ jm_p_X10_who _ 7 [some (.inr (.inr 94)), some (.inl r), some (.inl a), none, none, none] [.inl 0] μ31
                refine jv_if_neF rfl rfl (by decide) ?_
                refine jv_ldc rfl rfl ?_
                refine jv_ireturn rfl (Or.inl rfl) ?_
                exact ⟨jv_one (by omega), by exfalso; omega⟩
        · first
          | (exfalso; omega)
          | skip
            refine jv_ldc rfl rfl ?_
            refine jv_ireturn rfl (Or.inl rfl) ?_
            exact ⟨jv_one (by omega), by exfalso; omega⟩
      · show jV _ _ jm_p_X9_who _ 14 [some (.inr (.inr 0)), some (.inl r), some (.inl a), none] [.inl 2] μ
        refine jv_istore_nK (L2 := [some (.inr (.inr 0)), some (.inl r), some (.inl a), some (.inl 2)]) rfl rfl rfl ?_
        refine jv_iload_n rfl rfl rfl ?_
        refine jv_if_eqF rfl rfl (by decide) ?_
        refine jv_aload_n rfl rfl rfl (by decide) ?_
        refine jv_iload_n rfl rfl rfl ?_
        refine jv_callV1 rfl rfl rfl rfl ⟨by decide, rfl⟩ (Nat.le_of_ble_eq_true rfl) (cl_found (by omega) (fun μ19_1 eμ19_1 => ?_))
        show jV _ _ jm_p_X9_who _ 20 [some (.inr (.inr 0)), some (.inl r), some (.inl a), some (.inl 2)] [.inl (-1000010 - 2)] μ19_1
        refine jv_ireturn rfl (Or.inl rfl) ?_
        refine ⟨_, rfl, ?_⟩
        have g0 : μ19_1 95 = μ 95 := by rw [eμ19_1]; rfl
        have g00 : μ19_1 95 0 = μ 95 0 := by rw [g0]
        have g01 : μ19_1 95 1 = μ 95 1 := by rw [g0]
        have g98 : μ19_1 98 r = μ 98 r := by rw [eμ19_1]; rfl
        have g94 : μ19_1 94 1 = μ 94 1 := by rw [eμ19_1]; rfl
        refine jv_enter (d := 199) jm_p_X10_who [some (.inr (.inr 94)), some (.inl r), some (.inl a), none, none, none] rfl rfl rfl (Nat.le_of_ble_eq_true rfl) rfl rfl ?_
        refine jv_aload_n rfl rfl rfl (by decide) ?_
        refine jv_geti rfl rfl rfl ⟨by decide, rfl⟩ (by decide) ?_
        refine jv_if_ne rfl rfl rfl (fun c2 => ?_) (fun c2 => ?_)
        · first
          | (exfalso; omega)
          | skip
            refine jv_iload_n rfl rfl rfl ?_
            refine jv_callS1 rfl rfl rfl (Nat.le_of_ble_eq_true rfl) (mo_isRow (fun b6 => ?_) (fun b6 => ?_))
            · first
              | (exfalso; omega)
              | skip
                show jV _ _ jm_p_X10_who _ 7 [some (.inr (.inr 94)), some (.inl r), some (.inl a), none, none, none] [.inl 1] μ19_1
                refine jv_if_neT rfl rfl (by decide) ?_
                refine jv_aload_n rfl rfl rfl (by decide) ?_
                refine jv_iload_n rfl rfl rfl ?_
                refine jv_iload_n rfl rfl rfl ?_
                refine jv_callV2 rfl rfl rfl rfl ⟨by decide, rfl⟩ (Nat.le_of_ble_eq_true rfl) (mo_noItems (by omega) (by omega) (by omega) (by omega) (fun h13_0 ν13 eν13 => ?_) (fun h13_0 h13_1 => ?_) (fun h13_0 h13_1 ν13_1 eν13_1 => ?_))
                · first
                  | (exfalso; omega)
                  | skip
                    show jV _ _ jm_p_X10_who _ 14 [some (.inr (.inr 94)), some (.inl r), some (.inl a), none, none, none] [.inl (-1000011)] ν13
                    refine jv_istore_nK (L2 := [some (.inr (.inr 94)), some (.inl r), some (.inl a), some (.inl (-1000011)), none, none]) rfl rfl rfl ?_
                    refine jv_iload_n rfl rfl rfl ?_
                    refine jv_if_eqF rfl rfl (by decide) ?_
                    refine jv_iload_n rfl rfl rfl ?_
                    refine jv_ireturn rfl (Or.inl rfl) ?_
                    exact ⟨jv_one (by omega), jI_find hI eμ19_1 eν13⟩
                · first
                  | (exfalso; omega)
                  | skip
                    show jV _ _ jm_p_X10_who _ 14 [some (.inr (.inr 94)), some (.inl r), some (.inl a), none, none, none] [.inl 0] μ19_1
                    refine jv_istore_nK (L2 := [some (.inr (.inr 94)), some (.inl r), some (.inl a), some (.inl 0), none, none]) rfl rfl rfl ?_
                    refine jv_iload_n rfl rfl rfl ?_
                    refine jv_if_eqT rfl rfl (by decide) ?_
                    refine jv_iconst rfl rfl ?_
                    refine jv_istoreK (L2 := [some (.inr (.inr 94)), some (.inl r), some (.inl a), some (.inl 0), some (.inl 0), none]) rfl rfl rfl ?_
                    refine jv_iconst rfl rfl ?_
                    refine jv_istoreK (L2 := [some (.inr (.inr 94)), some (.inl r), some (.inl a), some (.inl 0), some (.inl 0), some (.inl 0)]) rfl rfl rfl ?_
                    exfalso; omega
                · first
                  | (exfalso; omega)
                  | skip
                    show jV _ _ jm_p_X10_who _ 14 [some (.inr (.inr 94)), some (.inl r), some (.inl a), none, none, none] [.inl (-1000012)] ν13_1
                    refine jv_istore_nK (L2 := [some (.inr (.inr 94)), some (.inl r), some (.inl a), some (.inl (-1000012)), none, none]) rfl rfl rfl ?_
                    refine jv_iload_n rfl rfl rfl ?_
                    refine jv_if_eqF rfl rfl (by decide) ?_
                    refine jv_iload_n rfl rfl rfl ?_
                    refine jv_ireturn rfl (Or.inl rfl) ?_
                    exact ⟨jv_one (by omega), jI_find hI eμ19_1 eν13_1⟩
            · first
              | (exfalso; omega)
              | skip
                show jV _ _ jm_p_X10_who _ 7 [some (.inr (.inr 94)), some (.inl r), some (.inl a), none, none, none] [.inl 0] μ19_1
                refine jv_if_neF rfl rfl (by decide) ?_
                refine jv_ldc rfl rfl ?_
                refine jv_ireturn rfl (Or.inl rfl) ?_
                exact ⟨jv_one (by omega), by exfalso; omega⟩
        · first
          | (exfalso; omega)
          | skip
            refine jv_ldc rfl rfl ?_
            refine jv_ireturn rfl (Or.inl rfl) ?_
            exact ⟨jv_one (by omega), by exfalso; omega⟩
