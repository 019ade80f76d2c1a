/-! what is kept ahead of an act -/
def jwc (μ0 : jm_M) (s nm nc : Int) (g : Int → Int) : Prop := (∀ m, 0 ≤ m → m < nm → g (s + 7 * m) = μ0 (μ0 8 m) 0 ∧ ∀ k, 0 ≤ k → k < 6 → g (s + 7 * m + 1 + k) = μ0 (μ0 8 m + 1) k) ∧ (∀ c, 0 ≤ c → c < nc → g (s + 28 + 2 * c) = μ0 (18 + c) 1 ∧ g (s + 28 + 2 * c + 1) = μ0 (18 + c) 4) ∧ ∀ j, (j < s ∨ s + 40 ≤ j) → g j = μ0 44 j
theorem jwc_mat {μ0 : jm_M} {s w : Int} {g : Int → Int} (hw : 0 ≤ w ∧ w < 4) (h : jwc μ0 s w 0 g) : jwc μ0 s (w + 1) 0 (jm_cpy (μ0 (μ0 8 w + 1)) (jm_u1 g (s + 7 * w) (μ0 (μ0 8 w) 0)) 0 (s + 7 * w + 1) 6) := by
  obtain ⟨a, -, c⟩ := h
  refine ⟨fun m m0 m1 => ?_, fun c c0 c1 => by exfalso; omega, fun j hj => ?_⟩
  · by_cases e : m = w
    · subst e
      refine ⟨?_, fun k k0 k1 => ?_⟩
      · unfold jm_cpy jm_u1
        rw [if_neg (by omega), if_pos rfl]
      · unfold jm_cpy
        rw [if_pos (by omega), show 0 + (s + 7 * m + 1 + k - (s + 7 * m + 1)) = k by omega]
    · have q := a m m0 (by omega)
      refine ⟨?_, fun k k0 k1 => ?_⟩
      · unfold jm_cpy jm_u1
        rw [if_neg (by omega), if_neg (by omega)]
        exact q.1
      · unfold jm_cpy jm_u1
        rw [if_neg (by omega), if_neg (by omega)]
        exact q.2 k k0 k1
  · unfold jm_cpy jm_u1
    rw [if_neg (by omega), if_neg (by omega)]
    exact c j hj
theorem jwc_com {μ0 : jm_M} {s w : Int} {g : Int → Int} (hw : 0 ≤ w ∧ w < 6) (h : jwc μ0 s 4 w g) : jwc μ0 s 4 (w + 1) (jm_u1 (jm_u1 g (s + 28 + 2 * w) (μ0 (18 + w) 1)) (s + 28 + 2 * w + 1) (μ0 (18 + w) 4)) := by
  obtain ⟨a, b, c⟩ := h
  refine ⟨fun m m0 m1 => ?_, fun x x0 x1 => ?_, fun j hj => ?_⟩
  · have q := a m m0 m1
    refine ⟨?_, fun k k0 k1 => ?_⟩
    · unfold jm_u1
      rw [if_neg (by omega), if_neg (by omega)]
      exact q.1
    · unfold jm_u1
      rw [if_neg (by omega), if_neg (by omega)]
      exact q.2 k k0 k1
  · by_cases e : x = w
    · subst e
      unfold jm_u1
      rw [if_neg (by omega), if_pos rfl, if_pos rfl]
      exact ⟨rfl, rfl⟩
    · have q := b x x0 (by omega)
      unfold jm_u1
      rw [if_neg (by omega), if_neg (by omega), if_neg (by omega), if_neg (by omega)]
      exact q
  · unfold jm_u1
    rw [if_neg (by omega), if_neg (by omega)]
    exact c j hj
theorem jwc_cell {μ0 : jm_M} {s : Int} {g t : Int → Int} (w0 : 0 ≤ t 0 ∧ t 0 ≤ 4) (w1 : 0 ≤ t 1 ∧ t 1 ≤ 6) (hr : jh_rel μ0 7 t) (h : jwc μ0 s 4 6 g) : jg_cell g s t := by
  obtain ⟨-, rm, rz, rc⟩ := hr
  obtain ⟨a, b, -⟩ := h
  refine ⟨fun m m0 m1 => ?_, fun m m0 m1 k k0 k1 => ?_, fun c c0 c1 => ?_⟩
  · have q := a m m0 (by omega)
    rw [q.1]
    refine ⟨(rm m m0 m1).1, fun k k0 k1 => ?_⟩
    rw [q.2 k k0 k1]
    exact (rm m m0 m1).2 k k0 k1
  · rw [(a m (by omega) m1).2 k k0 k1]
    exact rz m m0 m1 k k0 k1
  · have q := b c c0 (by omega)
    rw [q.1, q.2]
    have r := rc c c0 c1
    exact ⟨r.2.1, r.2.2.2.2⟩
set_option maxRecDepth 10000 in
theorem cl_writeC_c {X : jm_X} {d : Nat} {Q : jv_P} {s : Int} {μ0 : jm_M} (hmD : jh_mats μ0 7) (hs : 0 ≤ s ∧ s + 40 ≤ 960) (k : ∀ μ2, (∀ z, z ≠ 44 → μ2 z = μ0 z) → jwc μ0 s 4 6 (μ2 44) → Q [] μ2) : ∀ (n : Nat) (nx w : Int) (μ : jm_M), 0 ≤ w → w ≤ 6 → 6 - w < n → nx = s + 28 + 2 * w → (∀ z, z ≠ 44 → μ z = μ0 z) → jwc μ0 s 4 w (μ 44) → jV X d jm_p_X4_writeCells Q 32 [some (.inr (.inr 7)), some (.inr (.inr 44)), some (.inl s), some (.inl nx), some (.inl w)] [] μ := by
  intro n
  induction n with
  | zero => intro nx w μ y0 y1 yn en hf hP; exfalso; omega
  | succ n ih =>
    intro nx w μ y0 y1 yn en hf hP
    refine jv_iload rfl rfl rfl ?_
    refine jv_bipush rfl rfl ?_
    refine jv_icmp_ge rfl rfl rfl (fun c34 => ?_) (fun c34 => ?_)
    · refine jv_return rfl ?_
      have hx : w = 6 := by omega
      rw [hx] at hP
      exact k _ hf hP
    · refine jv_aload_n rfl rfl rfl (by decide) ?_
      refine jv_iload_n rfl rfl rfl ?_
      refine jv_aload_n rfl rfl rfl (by decide) ?_
      refine jv_getr (w := 9) rfl rfl rfl ⟨by decide, rfl⟩ rfl rfl ?_
      refine jv_iload rfl rfl rfl ?_
      refine jv_aaloadv (v := 18 + w) rfl rfl rfl ⟨by decide, by decide, by decide⟩ ⟨by omega, by omega⟩ (by rw [hf 9 (by decide)]; exact hmD.2.2 w (by omega) (by omega)) ?_
      refine jv_geti rfl rfl (jz_com7 (by omega) (by omega)).1 ⟨by omega, rfl⟩ (by decide) ?_
      refine jv_iastore rfl rfl rfl (by decide) ⟨by omega, by omega⟩ (fun μ42 eμ42 => ?_)
      have fμ42 : ∀ z, z ≠ 44 → μ42 z = μ0 z := fun z q => by rw [eμ42, jm_off1 q, hf z q]
      refine jv_aload_n rfl rfl rfl (by decide) ?_
      refine jv_iload_n rfl rfl rfl ?_
      refine jv_iconst rfl rfl ?_
      refine jv_iadd rfl rfl ⟨by omega, by omega⟩ ?_
      refine jv_aload_n rfl rfl rfl (by decide) ?_
      refine jv_getr (w := 9) rfl rfl rfl ⟨by decide, rfl⟩ rfl rfl ?_
      refine jv_iload rfl rfl rfl ?_
      refine jv_aaloadv (v := 18 + w) rfl rfl rfl ⟨by decide, by decide, by decide⟩ ⟨by omega, by omega⟩ (by rw [fμ42 9 (by decide)]; exact hmD.2.2 w (by omega) (by omega)) ?_
      refine jv_geti rfl rfl (jz_com7 (by omega) (by omega)).1 ⟨by omega, rfl⟩ (by decide) ?_
      refine jv_iastore rfl rfl rfl (by decide) ⟨by omega, by omega⟩ (fun μ52 eμ52 => ?_)
      have fμ52 : ∀ z, z ≠ 44 → μ52 z = μ0 z := fun z q => by rw [eμ52, jm_off1 q, fμ42 z q]
      refine jv_iinc (fun x => [some (.inr (.inr 7)), some (.inr (.inr 44)), some (.inl s), some (.inl x), some (.inl w)]) rfl rfl rfl ⟨by omega, by omega⟩ (fun _ => rfl) (fun x3_53 ex3_53 => ?_)
      refine jv_iinc (fun x => [some (.inr (.inr 7)), some (.inr (.inr 44)), some (.inl s), some (.inl x3_53), some (.inl x)]) rfl rfl rfl ⟨by omega, by omega⟩ (fun _ => rfl) (fun x4_54 ex4_54 => ?_)
      refine jv_goto rfl rfl ?_
      refine ih x3_53 x4_54 μ52 (by omega) (by omega) (by omega) (by omega) fμ52 ?_
      have e1 : μ52 44 = jm_u1 (jm_u1 (μ 44) (s + 28 + 2 * w) (μ0 (18 + w) 1)) (s + 28 + 2 * w + 1) (μ0 (18 + w) 4) := by rw [eμ52, jm_uc_self, fμ42 (18 + w) (by omega), eμ42, jm_uc_self, hf (18 + w) (by omega), en]
      rw [e1, ex4_54]
      exact jwc_com (by omega) hP
set_option maxRecDepth 10000 in
theorem cl_writeC_m {X : jm_X} {d : Nat} {Q : jv_P} {s : Int} {μ0 : jm_M} (hmD : jh_mats μ0 7) (hs : 0 ≤ s ∧ s + 40 ≤ 960) (k : ∀ μ2, (∀ z, z ≠ 44 → μ2 z = μ0 z) → jwc μ0 s 4 6 (μ2 44) → Q [] μ2) : ∀ (n : Nat) (nx w : Int) (μ : jm_M), 0 ≤ w → w ≤ 4 → 4 - w < n → nx = s + 7 * w → (∀ z, z ≠ 44 → μ z = μ0 z) → jwc μ0 s w 0 (μ 44) → jV X d jm_p_X4_writeCells Q 4 [some (.inr (.inr 7)), some (.inr (.inr 44)), some (.inl s), some (.inl nx), some (.inl w)] [] μ := by
  intro n
  induction n with
  | zero => intro nx w μ y0 y1 yn en hf hP; exfalso; omega
  | succ n ih =>
    intro nx w μ y0 y1 yn en hf hP
    refine jv_iload rfl rfl rfl ?_
    refine jv_iconst rfl rfl ?_
    refine jv_icmp_ge rfl rfl rfl (fun c6 => ?_) (fun c6 => ?_)
    · refine jv_iconst rfl rfl ?_
      refine jv_istoreK (L2 := [some (.inr (.inr 7)), some (.inr (.inr 44)), some (.inl s), some (.inl nx), some (.inl 0)]) rfl rfl rfl ?_
      have hx : w = 4 := by omega
      rw [hx] at hP
      exact cl_writeC_c hmD hs k 7 nx 0 μ (by omega) (by omega) (by omega) (by omega) hf hP
    · refine jv_aload_n rfl rfl rfl (by decide) ?_
      refine jv_iload_n rfl rfl rfl ?_
      refine jv_aload_n rfl rfl rfl (by decide) ?_
      refine jv_getr (w := 8) rfl rfl rfl ⟨by decide, rfl⟩ rfl rfl ?_
      refine jv_iload rfl rfl rfl ?_
      refine jv_aaloadv (v := μ0 8 w) rfl rfl rfl ⟨by decide, by decide, by decide⟩ ⟨by omega, by omega⟩ (by rw [hf 8 (by decide)]) ?_
      refine jv_geti rfl rfl (jz_mat7 hmD (m := w) (by omega) (by omega)).1 ⟨(jz_mat7 hmD (m := w) (by omega) (by omega)).2.2.1, rfl⟩ (by decide) ?_
      refine jv_iastore rfl rfl rfl (by decide) ⟨by omega, by omega⟩ (fun μ14 eμ14 => ?_)
      have fμ14 : ∀ z, z ≠ 44 → μ14 z = μ0 z := fun z q => by rw [eμ14, jm_off1 q, hf z q]
      refine jv_aload_n rfl rfl rfl (by decide) ?_
      refine jv_getr (w := 8) rfl rfl rfl ⟨by decide, rfl⟩ rfl rfl ?_
      refine jv_iload rfl rfl rfl ?_
      refine jv_aaloadv (v := μ0 8 w) rfl rfl rfl ⟨by decide, by decide, by decide⟩ ⟨by omega, by omega⟩ (by rw [fμ14 8 (by decide)]) ?_
      refine jv_getr (w := ((μ0 8 w) + 1)) rfl rfl (jz_mat7 hmD (m := w) (by omega) (by omega)).1 ⟨(jz_mat7 hmD (m := w) (by omega) (by omega)).2.2.1, rfl⟩ rfl rfl ?_
      refine jv_iconst rfl rfl ?_
      refine jv_aload_n rfl rfl rfl (by decide) ?_
      refine jv_iload_n rfl rfl rfl ?_
      refine jv_iconst rfl rfl ?_
      refine jv_iadd rfl rfl ⟨by omega, by omega⟩ ?_
      refine jv_bipush rfl rfl ?_
      refine jv_acopy rfl rfl (jz_mat7 hmD (m := w) (by omega) (by omega)).2.1 rfl ⟨by have := (jz_mat7 hmD (m := w) (by omega) (by omega)).2.2; omega, by decide⟩ (Nat.le_of_ble_eq_true rfl) ⟨⟨by omega, by omega, by omega⟩, by omega, by omega⟩ (fun μ26 eμ26 => ?_)
      refine jv_iinc (fun x => [some (.inr (.inr 7)), some (.inr (.inr 44)), some (.inl s), some (.inl x), some (.inl w)]) rfl rfl rfl ⟨by omega, by omega⟩ (fun _ => rfl) (fun x3_27 ex3_27 => ?_)
      refine jv_iinc (fun x => [some (.inr (.inr 7)), some (.inr (.inr 44)), some (.inl s), some (.inl x3_27), some (.inl x)]) rfl rfl rfl ⟨by omega, by omega⟩ (fun _ => rfl) (fun x4_28 ex4_28 => ?_)
      refine jv_goto rfl rfl ?_
      have dm : μ0 8 w = 7 + 3 ∨ μ0 8 w = 7 + 5 ∨ μ0 8 w = 7 + 7 ∨ μ0 8 w = 7 + 9 := hmD.1 w (by omega) (by omega)
      refine ih x3_27 x4_28 μ26 (by omega) (by omega) (by omega) (by omega) (fun z q => by rw [eμ26, jm_off1 q, fμ14 z q]) ?_
      have e1 : μ26 44 = jm_cpy (μ0 (μ0 8 w + 1)) (jm_u1 (μ 44) (s + 7 * w) (μ0 (μ0 8 w) 0)) 0 (s + 7 * w + 1) 6 := by rw [eμ26, jm_uc_self, fμ14 (μ0 8 w + 1) (by omega), eμ14, jm_uc_self, hf (μ0 8 w) (by omega), en]
      rw [e1, ex4_28]
      exact jwc_mat (by omega) hP
set_option maxRecDepth 10000 in
theorem cl_writeC {X : jm_X} {d : Nat} {Q : jv_P} {μ : jm_M} {s : Int} (hmD : jh_mats μ 7) (hs : 0 ≤ s ∧ s + 40 ≤ 960) (k : ∀ μ2, (∀ z, z ≠ 44 → μ2 z = μ z) → jwc μ s 4 6 (μ2 44) → Q [] μ2) : cV X (d + 1) 40 [.inr (.inr 7), .inr (.inr 44), .inl s] μ Q := by
  refine jv_enter (d := d + 0) jm_p_X4_writeCells [some (.inr (.inr 7)), some (.inr (.inr 44)), some (.inl s), none, none] rfl rfl rfl (Nat.le_of_ble_eq_true rfl) rfl rfl ?_
  refine jv_iload_n rfl rfl rfl ?_
  refine jv_istore_n (fun x => [some (.inr (.inr 7)), some (.inr (.inr 44)), some (.inl s), some (.inl x), none]) rfl rfl (fun _ => rfl) (fun x3_1 ex3_1 => ?_)
  refine jv_iconst rfl rfl ?_
  refine jv_istoreK (L2 := [some (.inr (.inr 7)), some (.inr (.inr 44)), some (.inl s), some (.inl x3_1), some (.inl 0)]) rfl rfl rfl ?_
  exact cl_writeC_m hmD hs k 5 x3_1 0 μ (by omega) (by omega) (by omega) (by omega) (fun _ _ => rfl) ⟨fun m m0 m1 => by exfalso; omega, fun c c0 c1 => by exfalso; omega, fun _ _ => rfl⟩
def jkk (μ μ2 : jm_M) (t : Int → Int) : Prop := (∀ z, z ≠ 43 → z ≠ 44 → μ2 z = μ z) ∧ μ2 43 1 = (μ 43 1 + 1) % 24 ∧ μ2 43 2 = min 24 (μ 43 2 + 1) ∧ (∀ j, (j < 40 * μ 43 1 ∨ 40 * μ 43 1 + 40 ≤ j) → μ2 44 j = μ 44 j) ∧ jg_cell (μ2 44) (40 * μ 43 1) t
set_option maxRecDepth 10000 in
theorem cl_keep {X : jm_X} {d : Nat} {Q : jv_P} {μ : jm_M} {t : Int → Int} (hH0 : jH μ t) (hn : 0 ≤ μ 43 1 ∧ μ 43 1 < 24) (hz : 0 ≤ μ 43 2 ∧ μ 43 2 ≤ 24) (k : ∀ μ2, jkk μ μ2 t → Q [] μ2) : cV X (d + 2) 35 [.inr (.inr 43), .inr (.inr 7)] μ Q := by
  refine jv_enter (d := d + 1) jm_p_X3_keep [some (.inr (.inr 43)), some (.inr (.inr 7))] rfl rfl rfl (Nat.le_of_ble_eq_true rfl) rfl rfl ?_
  refine jv_aload_n rfl rfl rfl (by decide) ?_
  refine jv_aload_n rfl rfl rfl (by decide) ?_
  refine jv_getr (w := 44) rfl rfl rfl ⟨by decide, rfl⟩ rfl rfl ?_
  refine jv_aload_n rfl rfl rfl (by decide) ?_
  refine jv_geti rfl rfl rfl ⟨by decide, rfl⟩ (by decide) ?_
  refine jv_bipush rfl rfl ?_
  refine jv_imul rfl rfl ⟨by omega, by omega⟩ ?_
  refine jv_callV2 rfl rfl rfl rfl ⟨by decide, rfl⟩ (Nat.le_of_ble_eq_true rfl) (cl_writeC hH0.2.2.1 (by omega) (fun μ7 fμ7 hμ7 => ?_))
  show jV _ _ jm_p_X3_keep _ 8 [some (.inr (.inr 43)), some (.inr (.inr 7))] [] μ7
  have g1 : μ7 43 1 = μ 43 1 := by rw [fμ7 43 (by decide)]
  have g2 : μ7 43 2 = μ 43 2 := by rw [fμ7 43 (by decide)]
  refine jv_aload_n rfl rfl rfl (by decide) ?_
  refine jv_aload_n rfl rfl rfl (by decide) ?_
  refine jv_geti rfl rfl rfl ⟨by decide, rfl⟩ (by decide) ?_
  refine jv_iconst rfl rfl ?_
  refine jv_iadd rfl rfl ⟨by omega, by omega⟩ ?_
  refine jv_bipush rfl rfl ?_
  refine jv_irem rfl rfl ⟨by omega, by omega⟩ ?_
  refine jv_puti rfl rfl rfl ⟨by decide, rfl⟩ (Or.inl rfl) (fun μ15 eμ15 => ?_)
  have g3 : μ15 43 2 = μ 43 2 := by rw [eμ15]; exact g2
  refine jv_aload_n rfl rfl rfl (by decide) ?_
  refine jv_bipush rfl rfl ?_
  refine jv_aload_n rfl rfl rfl (by decide) ?_
  refine jv_geti rfl rfl rfl ⟨by decide, rfl⟩ (by decide) ?_
  refine jv_iconst rfl rfl ?_
  refine jv_iadd rfl rfl ⟨by omega, by omega⟩ ?_
  refine jv_min rfl rfl (Nat.le_of_ble_eq_true rfl) ?_
  refine jv_puti rfl rfl rfl ⟨by decide, rfl⟩ (Or.inl rfl) (fun μ23 eμ23 => ?_)
  refine jv_return rfl ?_
  have q44 : μ23 44 = μ7 44 := by rw [eμ23, jm_off1 (by decide), eμ15, jm_off1 (by decide)]
  rw [show μ 43 1 * 40 = 40 * μ 43 1 by omega] at hμ7
  refine k _ ⟨fun z p q => by rw [eμ23, jm_off1 p, eμ15, jm_off1 p, fμ7 z q], ?_, ?_, fun j q => by rw [q44]; exact hμ7.2.2 j q, by rw [q44]; exact jwc_cell hH0.1.1 hH0.1.2.1 hH0.2.2.2 hμ7⟩
  · have z1 : μ23 43 1 = (μ7 43 1 + 1) % 24 := by rw [eμ23, eμ15]; rfl
    rw [z1, g1]
  · have z2 : μ23 43 2 = min 24 (μ15 43 2 + 1) := by rw [eμ23]; rfl
    rw [z2, g3]
def jrc (μ0 μ : jm_M) (s nm nc : Int) : Prop := (∀ z, (z < 10 ∨ 23 < z) → μ z = μ0 z) ∧ (∀ m, 0 ≤ m → m < nm → μ (μ0 8 m) 0 = μ0 44 (s + 7 * m) ∧ ∀ k, 0 ≤ k → k < 6 → μ (μ0 8 m + 1) k = μ0 44 (s + 7 * m + 1 + k)) ∧ (∀ c, 0 ≤ c → c < nc → μ (18 + c) 1 = μ0 44 (s + 28 + 2 * c) ∧ μ (18 + c) 4 = μ0 44 (s + 28 + 2 * c + 1)) ∧ ∀ c, 0 ≤ c → c < 6 → μ (18 + c) 0 = μ0 (18 + c) 0 ∧ μ (18 + c) 2 = μ0 (18 + c) 2 ∧ μ (18 + c) 3 = μ0 (18 + c) 3
theorem jrc_mat {μ0 μ μ2 : jm_M} {s w : Int} (hmD : jh_mats μ0 7) (hw : 0 ≤ w ∧ w < 4) (h : jrc μ0 μ s w 0) (f : ∀ u, u ≠ μ0 8 w → u ≠ μ0 8 w + 1 → μ2 u = μ u) (e1 : μ2 (μ0 8 w) 0 = μ0 44 (s + 7 * w)) (e2 : ∀ k, 0 ≤ k → k < 6 → μ2 (μ0 8 w + 1) k = μ0 44 (s + 7 * w + 1 + k)) : jrc μ0 μ2 s (w + 1) 0 := by
  obtain ⟨a, b, -, d⟩ := h
  have dm : ∀ m, 0 ≤ m → m < 4 → μ0 8 m = 7 + 3 ∨ μ0 8 m = 7 + 5 ∨ μ0 8 m = 7 + 7 ∨ μ0 8 m = 7 + 9 := hmD.1
  have dw := dm w hw.1 hw.2
  refine ⟨fun z q => by rw [f z (by omega) (by omega)]; exact a z q, fun m m0 m1 => ?_, fun c c0 c1 => by exfalso; omega, fun c c0 c1 => by rw [f (18 + c) (by omega) (by omega)]; exact d c c0 c1⟩
  by_cases e : m = w
  · rw [e]
    exact ⟨e1, e2⟩
  · have d2 := dm m m0 (by omega)
    have ne : ¬ μ0 8 m = μ0 8 w := fun z => e (hmD.2.1 m w m0 (by omega) hw.1 hw.2 z)
    rw [f _ (by omega) (by omega), f (μ0 8 m + 1) (by omega) (by omega)]
    exact b m m0 (by omega)
theorem jrc_com {μ0 μ μ2 : jm_M} {s w : Int} (hmD : jh_mats μ0 7) (hw : 0 ≤ w ∧ w < 6) (h : jrc μ0 μ s 4 w) (f : ∀ u, u ≠ 18 + w → μ2 u = μ u) (e : μ2 (18 + w) = jm_u1 (jm_u1 (μ (18 + w)) 1 (μ0 44 (s + 28 + 2 * w))) 4 (μ0 44 (s + 28 + 2 * w + 1))) : jrc μ0 μ2 s 4 (w + 1) := by
  obtain ⟨a, b, c, d⟩ := h
  have dm : ∀ m, 0 ≤ m → m < 4 → μ0 8 m = 7 + 3 ∨ μ0 8 m = 7 + 5 ∨ μ0 8 m = 7 + 7 ∨ μ0 8 m = 7 + 9 := hmD.1
  refine ⟨fun z q => by rw [f z (by omega)]; exact a z q, fun m m0 m1 => ?_, fun x x0 x1 => ?_, fun x x0 x1 => ?_⟩
  · have d2 := dm m m0 m1
    rw [f _ (by omega), f (μ0 8 m + 1) (by omega)]
    exact b m m0 m1
  · by_cases hx : x = w
    · rw [hx, e]
      exact ⟨rfl, rfl⟩
    · rw [f _ (by omega)]
      exact c x x0 (by omega)
  · by_cases hx : x = w
    · rw [hx, e]
      exact d w hw.1 hw.2
    · rw [f _ (by omega)]
      exact d x x0 x1
set_option maxRecDepth 10000 in
theorem cl_readC_c {X : jm_X} {d : Nat} {Q : jv_P} {s : Int} {μ0 : jm_M} (hmD : jh_mats μ0 7) (hs : 0 ≤ s ∧ s + 40 ≤ 960) (k : ∀ μ2, jrc μ0 μ2 s 4 6 → Q [] μ2) : ∀ (n : Nat) (nx w : Int) (μ : jm_M), 0 ≤ w → w ≤ 6 → 6 - w < n → nx = s + 28 + 2 * w → jrc μ0 μ s 4 w → jV X d jm_p_X4_readCells Q 32 [some (.inr (.inr 7)), some (.inr (.inr 44)), some (.inl s), some (.inl nx), some (.inl w)] [] μ := by
  intro n
  induction n with
  | zero => intro nx w μ y0 y1 yn en hP; exfalso; omega
  | succ n ih =>
    intro nx w μ y0 y1 yn en hP
    refine jv_iload rfl rfl rfl ?_
    refine jv_bipush rfl rfl ?_
    refine jv_icmp_ge rfl rfl rfl (fun c34 => ?_) (fun c34 => ?_)
    · refine jv_return rfl ?_
      have hx : w = 6 := by omega
      rw [hx] at hP
      exact k _ hP
    · refine jv_aload_n rfl rfl rfl (by decide) ?_
      refine jv_getr (w := 9) rfl rfl rfl ⟨by decide, rfl⟩ rfl rfl ?_
      refine jv_iload rfl rfl rfl ?_
      refine jv_aaloadv (v := 18 + w) rfl rfl rfl ⟨by decide, by decide, by decide⟩ ⟨by omega, by omega⟩ (by rw [hP.1 9 (by omega)]; exact hmD.2.2 w (by omega) (by omega)) ?_
      refine jv_aload_n rfl rfl rfl (by decide) ?_
      refine jv_iload_n rfl rfl rfl ?_
      refine jv_iaload rfl rfl (by decide) rfl ⟨by omega, by omega⟩ ?_
      refine jv_puti rfl rfl (jz_com7 (by omega) (by omega)).1 ⟨by omega, rfl⟩ (Or.inl rfl) (fun μ42 eμ42 => ?_)
      have fμ42 : ∀ z, (z < 10 ∨ 23 < z) → μ42 z = μ0 z := fun z q => by rw [eμ42, jm_off1 (by omega)]; exact hP.1 z q
      refine jv_aload_n rfl rfl rfl (by decide) ?_
      refine jv_getr (w := 9) rfl rfl rfl ⟨by decide, rfl⟩ rfl rfl ?_
      refine jv_iload rfl rfl rfl ?_
      refine jv_aaloadv (v := 18 + w) rfl rfl rfl ⟨by decide, by decide, by decide⟩ ⟨by omega, by omega⟩ (by rw [fμ42 9 (by omega)]; exact hmD.2.2 w (by omega) (by omega)) ?_
      refine jv_aload_n rfl rfl rfl (by decide) ?_
      refine jv_iload_n rfl rfl rfl ?_
      refine jv_iconst rfl rfl ?_
      refine jv_iadd rfl rfl ⟨by omega, by omega⟩ ?_
      refine jv_iaload rfl rfl (by decide) rfl ⟨by omega, by omega⟩ ?_
      refine jv_puti rfl rfl (jz_com7 (by omega) (by omega)).1 ⟨by omega, rfl⟩ (Or.inl rfl) (fun μ52 eμ52 => ?_)
      have fμ52 : ∀ z, (z < 10 ∨ 23 < z) → μ52 z = μ0 z := fun z q => by rw [eμ52, jm_off1 (by omega)]; exact fμ42 z q
      refine jv_iinc (fun x => [some (.inr (.inr 7)), some (.inr (.inr 44)), some (.inl s), some (.inl x), some (.inl w)]) rfl rfl rfl ⟨by omega, by omega⟩ (fun _ => rfl) (fun x3_53 ex3_53 => ?_)
      refine jv_iinc (fun x => [some (.inr (.inr 7)), some (.inr (.inr 44)), some (.inl s), some (.inl x3_53), some (.inl x)]) rfl rfl rfl ⟨by omega, by omega⟩ (fun _ => rfl) (fun x4_54 ex4_54 => ?_)
      refine jv_goto rfl rfl ?_
      refine ih x3_53 x4_54 μ52 (by omega) (by omega) (by omega) (by omega) ?_
      rw [ex4_54]
      refine jrc_com hmD (by omega) hP (fun u q => by rw [eμ52, jm_off1 q, eμ42, jm_off1 q]) ?_
      rw [eμ52, jm_uc_self, fμ42 44 (by omega), eμ42, jm_uc_self, hP.1 44 (by omega), en]
set_option maxRecDepth 10000 in
theorem cl_readC_m {X : jm_X} {d : Nat} {Q : jv_P} {s : Int} {μ0 : jm_M} (hmD : jh_mats μ0 7) (hs : 0 ≤ s ∧ s + 40 ≤ 960) (k : ∀ μ2, jrc μ0 μ2 s 4 6 → Q [] μ2) : ∀ (n : Nat) (nx w : Int) (μ : jm_M), 0 ≤ w → w ≤ 4 → 4 - w < n → nx = s + 7 * w → jrc μ0 μ s w 0 → jV X d jm_p_X4_readCells Q 4 [some (.inr (.inr 7)), some (.inr (.inr 44)), some (.inl s), some (.inl nx), some (.inl w)] [] μ := by
  intro n
  induction n with
  | zero => intro nx w μ y0 y1 yn en hP; exfalso; omega
  | succ n ih =>
    intro nx w μ y0 y1 yn en hP
    refine jv_iload rfl rfl rfl ?_
    refine jv_iconst rfl rfl ?_
    refine jv_icmp_ge rfl rfl rfl (fun c6 => ?_) (fun c6 => ?_)
    · refine jv_iconst rfl rfl ?_
      refine jv_istoreK (L2 := [some (.inr (.inr 7)), some (.inr (.inr 44)), some (.inl s), some (.inl nx), some (.inl 0)]) rfl rfl rfl ?_
      have hx : w = 4 := by omega
      rw [hx] at hP
      exact cl_readC_c hmD hs k 7 nx 0 μ (by omega) (by omega) (by omega) (by omega) hP
    · refine jv_aload_n rfl rfl rfl (by decide) ?_
      refine jv_getr (w := 8) rfl rfl rfl ⟨by decide, rfl⟩ rfl rfl ?_
      refine jv_iload rfl rfl rfl ?_
      refine jv_aaloadv (v := μ0 8 w) rfl rfl rfl ⟨by decide, by decide, by decide⟩ ⟨by omega, by omega⟩ (by rw [hP.1 8 (by omega)]) ?_
      refine jv_aload_n rfl rfl rfl (by decide) ?_
      refine jv_iload_n rfl rfl rfl ?_
      refine jv_iaload rfl rfl (by decide) rfl ⟨by omega, by omega⟩ ?_
      refine jv_puti rfl rfl (jz_mat7 hmD (m := w) (by omega) (by omega)).1 ⟨(jz_mat7 hmD (m := w) (by omega) (by omega)).2.2.1, rfl⟩ (Or.inl rfl) (fun μ14 eμ14 => ?_)
      have dm : μ0 8 w = 7 + 3 ∨ μ0 8 w = 7 + 5 ∨ μ0 8 w = 7 + 7 ∨ μ0 8 w = 7 + 9 := hmD.1 w (by omega) (by omega)
      have fμ14 : ∀ z, (z < 10 ∨ 23 < z) → μ14 z = μ0 z := fun z q => by rw [eμ14, jm_off1 (by omega)]; exact hP.1 z q
      refine jv_aload_n rfl rfl rfl (by decide) ?_
      refine jv_iload_n rfl rfl rfl ?_
      refine jv_iconst rfl rfl ?_
      refine jv_iadd rfl rfl ⟨by omega, by omega⟩ ?_
      refine jv_aload_n rfl rfl rfl (by decide) ?_
      refine jv_getr (w := 8) rfl rfl rfl ⟨by decide, rfl⟩ rfl rfl ?_
      refine jv_iload rfl rfl rfl ?_
      refine jv_aaloadv (v := μ0 8 w) rfl rfl rfl ⟨by decide, by decide, by decide⟩ ⟨by omega, by omega⟩ (by rw [fμ14 8 (by omega)]) ?_
      refine jv_getr (w := ((μ0 8 w) + 1)) rfl rfl (jz_mat7 hmD (m := w) (by omega) (by omega)).1 ⟨(jz_mat7 hmD (m := w) (by omega) (by omega)).2.2.1, rfl⟩ rfl rfl ?_
      refine jv_iconst rfl rfl ?_
      refine jv_bipush rfl rfl ?_
      refine jv_acopy rfl rfl rfl (jz_mat7 hmD (m := w) (by omega) (by omega)).2.1 ⟨by decide, by have := (jz_mat7 hmD (m := w) (by omega) (by omega)).2.2; omega⟩ (Nat.le_of_ble_eq_true rfl) ⟨⟨by omega, by omega, by omega⟩, by omega, by omega⟩ (fun μ26 eμ26 => ?_)
      refine jv_iinc (fun x => [some (.inr (.inr 7)), some (.inr (.inr 44)), some (.inl s), some (.inl x), some (.inl w)]) rfl rfl rfl ⟨by omega, by omega⟩ (fun _ => rfl) (fun x3_27 ex3_27 => ?_)
      refine jv_iinc (fun x => [some (.inr (.inr 7)), some (.inr (.inr 44)), some (.inl s), some (.inl x3_27), some (.inl x)]) rfl rfl rfl ⟨by omega, by omega⟩ (fun _ => rfl) (fun x4_28 ex4_28 => ?_)
      refine jv_goto rfl rfl ?_
      refine ih x3_27 x4_28 μ26 (by omega) (by omega) (by omega) (by omega) ?_
      rw [ex4_28]
      refine jrc_mat hmD (by omega) hP (fun u p q => by rw [eμ26, jm_off1 q, eμ14, jm_off1 p]) ?_ (fun j j0 j1 => ?_)
      · rw [eμ26, jm_off1 (by omega), eμ14, jm_uc_self]
        show μ 44 nx = _
        rw [hP.1 44 (by omega), en]
      · rw [eμ26, jm_uc_self, fμ14 44 (by omega)]
        unfold jm_cpy
        rw [if_pos (by omega), show nx + 1 + (j - 0) = s + 7 * w + 1 + j by omega]
set_option maxRecDepth 10000 in
theorem cl_readC {X : jm_X} {d : Nat} {Q : jv_P} {μ : jm_M} {s : Int} (hmD : jh_mats μ 7) (hs : 0 ≤ s ∧ s + 40 ≤ 960) (k : ∀ μ2, jrc μ μ2 s 4 6 → Q [] μ2) : cV X (d + 1) 41 [.inr (.inr 7), .inr (.inr 44), .inl s] μ Q := by
  refine jv_enter (d := d + 0) jm_p_X4_readCells [some (.inr (.inr 7)), some (.inr (.inr 44)), some (.inl s), none, none] rfl rfl rfl (Nat.le_of_ble_eq_true rfl) rfl rfl ?_
  refine jv_iload_n rfl rfl rfl ?_
  refine jv_istore_n (fun x => [some (.inr (.inr 7)), some (.inr (.inr 44)), some (.inl s), some (.inl x), none]) rfl rfl (fun _ => rfl) (fun x3_1 ex3_1 => ?_)
  refine jv_iconst rfl rfl ?_
  refine jv_istoreK (L2 := [some (.inr (.inr 7)), some (.inr (.inr 44)), some (.inl s), some (.inl x3_1), some (.inl 0)]) rfl rfl rfl ?_
  exact cl_readC_m hmD hs k 5 x3_1 0 μ (by omega) (by omega) (by omega) (by omega) ⟨fun _ _ => rfl, fun m m0 m1 => by exfalso; omega, fun c c0 c1 => by exfalso; omega, fun c c0 c1 => ⟨rfl, rfl, rfl⟩⟩
def jtb (μ μ2 : jm_M) (s : Int) : Prop := (∀ z, (z < 10 ∨ 23 < z) → z ≠ 43 → μ2 z = μ z) ∧ μ2 43 1 = (μ 43 1 + 24 - 1) % 24 ∧ μ2 43 2 = μ 43 2 - 1 ∧ (∀ m, 0 ≤ m → m < 4 → μ2 (μ 8 m) 0 = μ 44 (s + 7 * m) ∧ ∀ k, 0 ≤ k → k < 6 → μ2 (μ 8 m + 1) k = μ 44 (s + 7 * m + 1 + k)) ∧ (∀ c, 0 ≤ c → c < 6 → μ2 (18 + c) 1 = μ 44 (s + 28 + 2 * c) ∧ μ2 (18 + c) 4 = μ 44 (s + 28 + 2 * c + 1)) ∧ ∀ c, 0 ≤ c → c < 6 → μ2 (18 + c) 0 = μ (18 + c) 0 ∧ μ2 (18 + c) 2 = μ (18 + c) 2 ∧ μ2 (18 + c) 3 = μ (18 + c) 3
set_option maxRecDepth 10000 in
theorem cl_takeBack {X : jm_X} {d : Nat} {Q : jv_P} {μ : jm_M}  (hmD : jh_mats μ 7) (hn : 0 ≤ μ 43 1 ∧ μ 43 1 < 24) (hz : 0 < μ 43 2 ∧ μ 43 2 ≤ 24) (k : ∀ μ2, jtb μ μ2 (40 * ((μ 43 1 + 24 - 1) % 24)) → Q [.inl (μ 43 2 - 1)] μ2) : cV X (d + 2) 36 [.inr (.inr 43), .inr (.inr 7)] μ Q := by
  refine jv_enter (d := d + 1) jm_p_X3_takeBack [some (.inr (.inr 43)), some (.inr (.inr 7))] rfl rfl rfl (Nat.le_of_ble_eq_true rfl) rfl rfl ?_
  refine jv_aload_n rfl rfl rfl (by decide) ?_
  refine jv_geti rfl rfl rfl ⟨by decide, rfl⟩ (by decide) ?_
  refine jv_if_leF rfl rfl (by omega) ?_
  refine jv_aload_n rfl rfl rfl (by decide) ?_
  refine jv_aload_n rfl rfl rfl (by decide) ?_
  refine jv_geti rfl rfl rfl ⟨by decide, rfl⟩ (by decide) ?_
  refine jv_bipush rfl rfl ?_
  refine jv_iadd rfl rfl ⟨by omega, by omega⟩ ?_
  refine jv_iconst rfl rfl ?_
  refine jv_isub rfl rfl ⟨by omega, by omega⟩ ?_
  refine jv_bipush rfl rfl ?_
  refine jv_irem rfl rfl ⟨by omega, by omega⟩ ?_
  refine jv_puti rfl rfl rfl ⟨by decide, rfl⟩ (Or.inl rfl) (fun μ12 eμ12 => ?_)
  have g2 : μ12 43 2 = μ 43 2 := by rw [eμ12]; rfl
  refine jv_aload_n rfl rfl rfl (by decide) ?_
  refine jv_dupr rfl rfl ?_
  refine jv_geti rfl rfl rfl ⟨by decide, rfl⟩ (by decide) ?_
  refine jv_iconst rfl rfl ?_
  refine jv_isub rfl rfl ⟨by omega, by omega⟩ ?_
  refine jv_puti rfl rfl rfl ⟨by decide, rfl⟩ (Or.inl rfl) (fun μ18 eμ18 => ?_)
  have g1 : μ18 43 1 = (μ 43 1 + 24 - 1) % 24 := by rw [eμ18, eμ12]; rfl
  have g3 : μ18 43 2 = μ12 43 2 - 1 := by rw [eμ18]; rfl
  have g18 : ∀ z, z ≠ 43 → μ18 z = μ z := fun z q => by rw [eμ18, jm_off1 q, eμ12, jm_off1 q]
  refine jv_aload_n rfl rfl rfl (by decide) ?_
  refine jv_aload_n rfl rfl rfl (by decide) ?_
  refine jv_getr (w := 44) rfl rfl rfl ⟨by decide, rfl⟩ rfl rfl ?_
  refine jv_aload_n rfl rfl rfl (by decide) ?_
  refine jv_geti rfl rfl rfl ⟨by decide, rfl⟩ (by decide) ?_
  refine jv_bipush rfl rfl ?_
  refine jv_imul rfl rfl ⟨by omega, by omega⟩ ?_
  refine jv_callV2 rfl rfl rfl rfl ⟨by decide, rfl⟩ (Nat.le_of_ble_eq_true rfl) (cl_readC (jg_mats (g18 8 (by decide)) (g18 9 (by decide)) hmD) (by omega) (fun μ26 hμ26 => ?_))
  show jV _ _ jm_p_X3_takeBack _ 27 [some (.inr (.inr 43)), some (.inr (.inr 7))] [] μ26
  have g26 : μ26 43 2 = μ18 43 2 := by rw [hμ26.1 43 (by omega)]
  refine jv_aload_n rfl rfl rfl (by decide) ?_
  refine jv_geti rfl rfl rfl ⟨by decide, rfl⟩ (by decide) ?_
  refine jv_ireturn rfl (Or.inl rfl) ?_
  rw [show μ26 43 2 = μ 43 2 - 1 by omega]
  have g8 : ∀ z, z ≠ 43 → μ18 z = μ z := g18
  rw [show μ18 43 1 * 40 = 40 * ((μ 43 1 + 24 - 1) % 24) by omega] at hμ26
  obtain ⟨p1, p2, p3, p4⟩ := hμ26
  rw [g8 8 (by decide), g8 44 (by decide)] at p2
  rw [g8 44 (by decide)] at p3
  refine k _ ⟨fun z q r => by rw [p1 z q, g8 z r], by rw [p1 43 (by omega)]; exact g1, by omega, p2, p3, fun c c0 c1 => ?_⟩
  have q := p4 c c0 c1
  rw [g8 (18 + c) (by omega)] at q
  exact q
def jkm (μ ν : jm_M) : Prop := (∀ z, z ≠ 94 → z ≠ 95 → ν z = μ z) ∧ (∀ j, j ≠ 2 → ν 94 j = μ 94 j) ∧ ν 94 2 = min 24 (μ 94 2 + 1) ∧ (∀ j, 1550 ≤ j → ν 95 j = μ 95 j) ∧ (∀ k, 0 ≤ k → k < ν 94 2 - 1 → ∀ j, 0 ≤ j → j < 62 → ν 95 (62 + 62 * k + j) = μ 95 (62 + 62 * (if μ 94 2 = 24 then k + 1 else k) + j)) ∧ ∀ j, 0 ≤ j → j < 62 → ν 95 (62 + 62 * (ν 94 2 - 1) + j) = μ 95 j
def jsh (f : Int → Int) (w : Int) : Int → Int := fun j => if 62 ≤ j ∧ j < 62 + w then f (j + 62) else f j
set_option maxRecDepth 10000 in
theorem mo_keepPast_l {X : jm_X} {d : Nat} {Q : jv_P} {μ0 : jm_M} (hu : μ0 94 2 = 24) (k : jV X d jm_p_X10_keepPast Q 23 [some (.inr (.inr 94)), some (.inl 1426)] [] (jm_uc μ0 95 (jsh (μ0 95) 1426))) : ∀ (n : Nat) (w : Int) (μ : jm_M), 0 ≤ w → w ≤ 1426 → 1426 - w < n → μ = jm_uc μ0 95 (jsh (μ0 95) w) → jV X d jm_p_X10_keepPast Q 2 [some (.inr (.inr 94)), some (.inl w)] [] μ := by
  intro n
  induction n with
  | zero => intro w μ y0 y1 yn hμ; exfalso; omega
  | succ n ih =>
    intro w μ y0 y1 yn hμ
    have hu2 : μ 94 2 = 24 := by rw [hμ, jm_off1 (by decide)]; exact hu
    refine jv_iload_n rfl rfl rfl ?_
    refine jv_sipush rfl rfl ?_
    refine jv_icmp_ge rfl rfl rfl (fun c4 => ?_) (fun c4 => ?_)
    · have hx : w = 1426 := by omega
      rw [hμ, hx]
      exact k
    · refine jv_aload_n rfl rfl rfl (by decide) ?_
      refine jv_geti rfl rfl rfl ⟨by decide, rfl⟩ (by decide) ?_
      refine jv_bipush rfl rfl ?_
      refine jv_icmp_neF rfl rfl (by omega) ?_
      refine jv_aload_n rfl rfl rfl (by decide) ?_
      refine jv_getr (w := 95) rfl rfl rfl ⟨by decide, rfl⟩ rfl rfl ?_
      refine jv_bipush rfl rfl ?_
      refine jv_iload_n rfl rfl rfl ?_
      refine jv_iadd rfl rfl ⟨by omega, by omega⟩ ?_
      refine jv_aload_n rfl rfl rfl (by decide) ?_
      refine jv_getr (w := 95) rfl rfl rfl ⟨by decide, rfl⟩ rfl rfl ?_
      refine jv_bipush rfl rfl ?_
      refine jv_iload_n rfl rfl rfl ?_
      refine jv_iadd rfl rfl ⟨by omega, by omega⟩ ?_
      refine jv_iaload rfl rfl (by decide) rfl ⟨by omega, by omega⟩ ?_
      refine jv_iastore rfl rfl rfl (by decide) ⟨by omega, by omega⟩ (fun μ20 eμ20 => ?_)
      refine jv_iinc (fun x => [some (.inr (.inr 94)), some (.inl x)]) rfl rfl rfl ⟨by omega, by omega⟩ (fun _ => rfl) (fun x1_21 ex1_21 => ?_)
      refine jv_goto rfl rfl ?_
      refine ih x1_21 μ20 (by omega) (by omega) (by omega) ?_
      rw [eμ20, hμ, jm_uc2, ex1_21]
      congr 1
      funext j
      simp only [jm_u1, jm_uc_self, jsh]
      by_cases hj : j = 62 + w
      · rw [if_pos hj, if_neg (by omega), if_pos (by omega), show 124 + w = j + 62 by omega]
      · rw [if_neg hj]
        by_cases hr2 : 62 ≤ j ∧ j < 62 + w
        · rw [if_pos hr2, if_pos (by omega)]
        · rw [if_neg hr2, if_neg (by omega)]
set_option maxRecDepth 10000 in
theorem mo_keep23 {X : jm_X} {d : Nat} {Q : jv_P} {μ : jm_M} {u : Int} {o1 : Option jm_V} (h0 : 0 ≤ μ 94 2 ∧ μ 94 2 ≤ 24) (hu : (μ 94 2 = 24 ∧ u = 23) ∨ (μ 94 2 ≠ 24 ∧ u = μ 94 2)) (k : ∀ ν : jm_M, (∀ z, z ≠ 94 → z ≠ 95 → ν z = μ z) → (∀ j, j ≠ 2 → ν 94 j = μ 94 j) → ν 94 2 = u + 1 → ν 95 = jt_cp (μ 95) 0 (62 + 62 * u) 62 → Q [] ν) : jV X (d + 1) jm_p_X10_keepPast Q 23 [some (.inr (.inr 94)), o1] [] μ := by
  refine jv_aload_n rfl rfl rfl (by decide) ?_
  refine jv_dupr rfl rfl ?_
  refine jv_geti rfl rfl rfl ⟨by decide, rfl⟩ (by decide) ?_
  refine jv_aload_n rfl rfl rfl (by decide) ?_
  refine jv_geti rfl rfl rfl ⟨by decide, rfl⟩ (by decide) ?_
  refine jv_bipush rfl rfl ?_
  refine jv_icmp_ne rfl rfl rfl (fun c29 => ?_) (fun c29 => ?_)
  · refine jv_iconst rfl rfl ?_
    refine jv_isub rfl rfl ⟨by omega, by omega⟩ ?_
    refine jv_puti rfl rfl rfl ⟨by decide, rfl⟩ (Or.inl rfl) (fun μ34 eμ34 => ?_)
    have g34 : μ34 94 2 = u := by rw [eμ34]; show _ - _ = u; omega
    refine jv_aload_n rfl rfl rfl (by decide) ?_
    refine jv_iconst rfl rfl ?_
    refine jv_bipush rfl rfl ?_
    refine jv_bipush rfl rfl ?_
    refine jv_aload_n rfl rfl rfl (by decide) ?_
    refine jv_geti rfl rfl rfl ⟨by decide, rfl⟩ (by decide) ?_
    refine jv_imul rfl rfl ⟨by omega, by omega⟩ ?_
    refine jv_iadd rfl rfl ⟨by omega, by omega⟩ ?_
    refine jv_callV2 rfl rfl rfl rfl ⟨by decide, rfl⟩ (Nat.le_of_ble_eq_true rfl) (mo_copyTown (by omega) (by omega) (by omega) ?_)
    generalize eμ43 : jm_uc μ34 95 (jt_cp (μ34 95) 0 (62 + (62 * (μ34 94 2))) 62) = μ43
    show jV _ _ jm_p_X10_keepPast _ 44 [some (.inr (.inr 94)), o1] [] μ43
    have g43 : μ43 94 2 = u := by rw [← eμ43, jm_off1 (by decide)]; exact g34
    refine jv_aload_n rfl rfl rfl (by decide) ?_
    refine jv_dupr rfl rfl ?_
    refine jv_geti rfl rfl rfl ⟨by decide, rfl⟩ (by decide) ?_
    refine jv_iconst rfl rfl ?_
    refine jv_iadd rfl rfl ⟨by omega, by omega⟩ ?_
    refine jv_puti rfl rfl rfl ⟨by decide, rfl⟩ (Or.inl rfl) (fun μ49 eμ49 => ?_)
    refine jv_return rfl ?_
    have z2 : μ49 94 2 = u + 1 := by rw [eμ49]; show μ43 94 2 + 1 = u + 1; rw [g43]
    have z95 : μ49 95 = jt_cp (μ 95) 0 (62 + 62 * u) 62 := by rw [eμ49, jm_off1 (by decide), ← eμ43, jm_uc_self, g34, eμ34, jm_off1 (by decide)]
    refine k _ (fun z p q => by rw [eμ49, jm_off1 p, ← eμ43, jm_off1 q, eμ34, jm_off1 p]) (fun j q => ?_) z2 z95
    have y1 : μ49 94 j = μ43 94 j := by rw [eμ49, jm_uc_self]; unfold jm_u1; rw [if_neg q]
    have y2 : μ43 94 j = μ34 94 j := by rw [← eμ43, jm_off1 (by decide)]
    have y3 : μ34 94 j = μ 94 j := by rw [eμ34, jm_uc_self]; unfold jm_u1; rw [if_neg q]
    rw [y1, y2, y3]
  · refine jv_iconst rfl rfl ?_
    refine jv_goto rfl rfl ?_
    refine jv_isub rfl rfl ⟨by omega, by omega⟩ ?_
    refine jv_puti rfl rfl rfl ⟨by decide, rfl⟩ (Or.inl rfl) (fun μ34_1 eμ34_1 => ?_)
    have g34 : μ34_1 94 2 = u := by rw [eμ34_1]; show _ - _ = u; omega
    refine jv_aload_n rfl rfl rfl (by decide) ?_
    refine jv_iconst rfl rfl ?_
    refine jv_bipush rfl rfl ?_
    refine jv_bipush rfl rfl ?_
    refine jv_aload_n rfl rfl rfl (by decide) ?_
    refine jv_geti rfl rfl rfl ⟨by decide, rfl⟩ (by decide) ?_
    refine jv_imul rfl rfl ⟨by omega, by omega⟩ ?_
    refine jv_iadd rfl rfl ⟨by omega, by omega⟩ ?_
    refine jv_callV2 rfl rfl rfl rfl ⟨by decide, rfl⟩ (Nat.le_of_ble_eq_true rfl) (mo_copyTown (by omega) (by omega) (by omega) ?_)
    generalize eμ43_1 : jm_uc μ34_1 95 (jt_cp (μ34_1 95) 0 (62 + (62 * (μ34_1 94 2))) 62) = μ43_1
    show jV _ _ jm_p_X10_keepPast _ 44 [some (.inr (.inr 94)), o1] [] μ43_1
    have g43 : μ43_1 94 2 = u := by rw [← eμ43_1, jm_off1 (by decide)]; exact g34
    refine jv_aload_n rfl rfl rfl (by decide) ?_
    refine jv_dupr rfl rfl ?_
    refine jv_geti rfl rfl rfl ⟨by decide, rfl⟩ (by decide) ?_
    refine jv_iconst rfl rfl ?_
    refine jv_iadd rfl rfl ⟨by omega, by omega⟩ ?_
    refine jv_puti rfl rfl rfl ⟨by decide, rfl⟩ (Or.inl rfl) (fun μ49_1 eμ49_1 => ?_)
    refine jv_return rfl ?_
    have z2 : μ49_1 94 2 = u + 1 := by rw [eμ49_1]; show μ43_1 94 2 + 1 = u + 1; rw [g43]
    have z95 : μ49_1 95 = jt_cp (μ 95) 0 (62 + 62 * u) 62 := by rw [eμ49_1, jm_off1 (by decide), ← eμ43_1, jm_uc_self, g34, eμ34_1, jm_off1 (by decide)]
    refine k _ (fun z p q => by rw [eμ49_1, jm_off1 p, ← eμ43_1, jm_off1 q, eμ34_1, jm_off1 p]) (fun j q => ?_) z2 z95
    have y1 : μ49_1 94 j = μ43_1 94 j := by rw [eμ49_1, jm_uc_self]; unfold jm_u1; rw [if_neg q]
    have y2 : μ43_1 94 j = μ34_1 94 j := by rw [← eμ43_1, jm_off1 (by decide)]
    have y3 : μ34_1 94 j = μ 94 j := by rw [eμ34_1, jm_uc_self]; unfold jm_u1; rw [if_neg q]
    rw [y1, y2, y3]
set_option maxRecDepth 10000 in
theorem mo_keepPast {X : jm_X} {d : Nat} {Q : jv_P} {μ : jm_M}  (h0 : 0 ≤ μ 94 2 ∧ μ 94 2 ≤ 24) (k : ∀ ν, jkm μ ν → (∀ j, 0 ≤ j → j < 62 → ν 95 j = μ 95 j) → Q [] ν) : cV X (d + 2) 162 [.inr (.inr 94)] μ Q := by
  refine jv_enter (d := d + 1) jm_p_X10_keepPast [some (.inr (.inr 94)), none] rfl rfl rfl (Nat.le_of_ble_eq_true rfl) rfl rfl ?_
  refine jv_iconst rfl rfl ?_
  refine jv_istore_nK (L2 := [some (.inr (.inr 94)), some (.inl 0)]) rfl rfl rfl ?_
  by_cases hu : μ 94 2 = 24
  · refine mo_keepPast_l hu ?_ 1427 0 μ (by omega) (by omega) (by omega) ?_
    · generalize eμ' : jm_uc μ 95 (jsh (μ 95) 1426) = μ'
      have f94 : μ' 94 = μ 94 := by rw [← eμ', jm_off1 (by decide)]
      have f95 : μ' 95 = jsh (μ 95) 1426 := by rw [← eμ', jm_uc_self]
      refine mo_keep23 (u := 23) (by rw [f94]; omega) (by rw [f94]; omega) (fun ν a b c e => ?_)
      refine k ν ⟨fun z p q => by rw [a z p q, ← eμ', jm_off1 q], fun j q => by rw [b j q, f94], by omega, fun j q => ?_, fun x x0 x1 j j0 j1 => ?_, fun j j0 j1 => ?_⟩ (fun j j0 j1 => ?_)
      · rw [e]
        unfold jt_cp
        rw [if_neg (by omega), f95]
        unfold jsh
        rw [if_neg (by omega)]
      · rw [e]
        unfold jt_cp
        rw [if_neg (by omega), f95, if_pos hu]
        unfold jsh
        rw [if_pos (by omega)]
        congr 1
        omega
      · rw [e, c]
        unfold jt_cp
        rw [if_pos (by omega), show 0 + (62 + 62 * (23 + 1 - 1) + j - (62 + 62 * 23)) = j by omega, f95]
        unfold jsh
        rw [if_neg (by omega)]
      · rw [e]
        unfold jt_cp
        rw [if_neg (by omega), f95]
        unfold jsh
        rw [if_neg (by omega)]
    · have e : jsh (μ 95) 0 = μ 95 := by
        funext j
        unfold jsh
        rw [if_neg (by omega)]
      rw [e, jm_uc_id]
  · refine jv_iload_n rfl rfl rfl ?_
    refine jv_sipush rfl rfl ?_
    refine jv_icmp_geF rfl rfl (by decide) ?_
    refine jv_aload_n rfl rfl rfl (by decide) ?_
    refine jv_geti rfl rfl rfl ⟨by decide, rfl⟩ (by decide) ?_
    refine jv_bipush rfl rfl ?_
    refine jv_icmp_neT rfl rfl hu ?_
    refine mo_keep23 (u := μ 94 2) h0 (by omega) (fun ν a b c e => ?_)
    refine k ν ⟨a, b, by omega, fun j q => ?_, fun x x0 x1 j j0 j1 => ?_, fun j j0 j1 => ?_⟩ (fun j j0 j1 => ?_)
    · rw [e]
      unfold jt_cp
      rw [if_neg (by omega)]
    · rw [e, if_neg hu]
      unfold jt_cp
      rw [if_neg (by omega)]
    · rw [e, c]
      unfold jt_cp
      rw [if_pos (by omega), show 0 + (62 + 62 * (μ 94 2 + 1 - 1) + j - (62 + 62 * μ 94 2)) = j by omega]
    · rw [e]
      unfold jt_cp
      rw [if_neg (by omega)]
