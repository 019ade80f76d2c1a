set_option maxRecDepth 10000 in
theorem cl_matTake {X : jm_X} {d : Nat} {Q : jv_P} {μ : jm_M} {z y : Int} (hz : jz_mat z) (hy : jz_mat y) (h1 : y ≠ z) (h2 : y + 1 ≠ z) (k : ∀ μ2 : jm_M, (∀ u, u ≠ z → u ≠ z + 1 → μ2 u = μ u) → μ2 z 0 = μ y 0 → (∀ k, 0 ≤ k → k < 6 → μ2 (z + 1) k = μ (y + 1) k) → Q [] μ2) : cV X (d + 1) 55 [.inr (.inr z), .inr (.inr y)] μ Q := by
  refine jv_enter (d := d + 0) jm_p_X5_takeOver [some (.inr (.inr z)), some (.inr (.inr y))] rfl rfl rfl (Nat.le_of_ble_eq_true rfl) rfl rfl ?_
  refine jv_aload_n rfl rfl rfl (by have := hz.2.2; omega) ?_
  refine jv_aload_n rfl rfl rfl (by have := hy.2.2; omega) ?_
  refine jv_geti rfl rfl hy.1 ⟨hy.2.2.1, rfl⟩ (by decide) ?_
  refine jv_puti rfl rfl hz.1 ⟨hz.2.2.1, rfl⟩ (Or.inl rfl) (fun μ3 eμ3 => ?_)
  refine jv_aload_n rfl rfl rfl (by have := hy.2.2; omega) ?_
  refine jv_getr (w := (y + 1)) rfl rfl hy.1 ⟨hy.2.2.1, rfl⟩ rfl rfl ?_
  refine jv_iconst rfl rfl ?_
  refine jv_aload_n rfl rfl rfl (by have := hz.2.2; omega) ?_
  refine jv_getr (w := (z + 1)) rfl rfl hz.1 ⟨hz.2.2.1, rfl⟩ rfl rfl ?_
  refine jv_iconst rfl rfl ?_
  refine jv_bipush rfl rfl ?_
  refine jv_acopy rfl rfl hy.2.1 hz.2.1 ⟨by have := hy.2.2; omega, by have := hz.2.2; omega⟩ (Nat.le_of_ble_eq_true rfl) ⟨⟨by omega, by omega, by omega⟩, by omega, by omega⟩ (fun μ11 eμ11 => ?_)
  refine jv_return rfl ?_
  refine k _ (fun u a b => by rw [eμ11, jm_uc_ne b, eμ3, jm_uc_ne a]) ?_ (fun j j0 j1 => ?_)
  · rw [eμ11, jm_uc_ne (by omega), eμ3, jm_uc_self]
    rfl
  · rw [eμ11, jm_uc_self, eμ3, jm_uc_ne (show y + 1 ≠ z by omega)]
    unfold jm_cpy
    rw [if_pos (by omega), show 0 + (j - 0) = j by omega]
/-- of the house at s, the law, nm mats and nc comers have come to the house at h -/
def jhp (h s : Int) (μ0 μ : jm_M) (nm nc : Int) : Prop := (∀ z, (z < h ∨ z = h + 1 ∨ z = h + 2 ∨ h + 16 < z) → μ z = μ0 z) ∧ (μ h 0 = μ0 s 0 ∧ μ h 1 = μ0 s 1 ∧ μ h 2 = μ0 s 2 ∧ μ h 3 = μ0 s 3) ∧ (∀ m, 0 ≤ m → m < nm → μ (μ0 (h + 1) m) 0 = μ0 (μ0 (s + 1) m) 0 ∧ ∀ k, 0 ≤ k → k < 6 → μ (μ0 (h + 1) m + 1) k = μ0 (μ0 (s + 1) m + 1) k) ∧ (∀ c, 0 ≤ c → c < nc → ∀ j, 0 ≤ j → j < 5 → μ (h + 11 + c) j = μ0 (s + 11 + c) j)
theorem jhp_mat {h s w : Int} {μ0 μ μ2 : jm_M} (hd : h + 16 < s ∨ s + 16 < h) (hmD : jh_mats μ0 h) (hmS : jh_mats μ0 s) (hw : 0 ≤ w ∧ w < 4) (hP : jhp h s μ0 μ w 0) (f : ∀ u, u ≠ μ0 (h + 1) w → u ≠ μ0 (h + 1) w + 1 → μ2 u = μ u) (e1 : μ2 (μ0 (h + 1) w) 0 = μ (μ0 (s + 1) w) 0) (e2 : ∀ k, 0 ≤ k → k < 6 → μ2 (μ0 (h + 1) w + 1) k = μ (μ0 (s + 1) w + 1) k) : jhp h s μ0 μ2 (w + 1) 0 := by
  obtain ⟨p1, p2, p3, -⟩ := hP
  have d := hmD.1 w hw.1 hw.2
  have q := hmS.1 w hw.1 hw.2
  refine ⟨fun z a => by rw [f z (by omega) (by omega)]; exact p1 z a, by rw [f h (by omega) (by omega)]; exact p2, fun m m0 m1 => ?_, fun c c0 c1 => by exfalso; omega⟩
  by_cases hm : m = w
  · rw [hm, e1]
    refine ⟨by rw [p1 _ (by omega)], fun k k0 k1 => ?_⟩
    rw [e2 k k0 k1, p1 _ (by omega)]
  · have dm := hmD.1 m m0 (by omega)
    have ne : ¬ μ0 (h + 1) m = μ0 (h + 1) w := fun z => hm (hmD.2.1 m w m0 (by omega) hw.1 hw.2 z)
    rw [f _ (by omega) (by omega), f (μ0 (h + 1) m + 1) (by omega) (by omega)]
    exact p3 m m0 (by omega)
theorem jhp_com {h s w : Int} {μ0 μ μ2 : jm_M} (hd : h + 16 < s ∨ s + 16 < h) (hmD : jh_mats μ0 h) (hw : 0 ≤ w ∧ w < 6) (hP : jhp h s μ0 μ 4 w) (f : ∀ u, u ≠ h + 11 + w → μ2 u = μ u) (e : ∀ j, 0 ≤ j → j < 5 → μ2 (h + 11 + w) j = μ (s + 11 + w) j) : jhp h s μ0 μ2 4 (w + 1) := by
  obtain ⟨p1, p2, p3, p4⟩ := hP
  refine ⟨fun z a => by rw [f z (by omega)]; exact p1 z a, by rw [f h (by omega)]; exact p2, fun m m0 m1 => ?_, fun c c0 c1 j j0 j1 => ?_⟩
  · have dm := hmD.1 m m0 m1
    rw [f _ (by omega), f (μ0 (h + 1) m + 1) (by omega)]
    exact p3 m m0 m1
  · by_cases hc : c = w
    · rw [hc, e j j0 j1, p1 _ (by omega)]
    · rw [f _ (by omega)]
      exact p4 c c0 (by omega) j j0 j1
theorem jhp_rel {h s : Int} {μ0 μ : jm_M} {t : Int → Int} (w0 : 0 ≤ t 0 ∧ t 0 ≤ 4) (w1 : 0 ≤ t 1 ∧ t 1 ≤ 6) (hP : jhp h s μ0 μ 4 6) (hr : jh_rel μ0 s t) : jh_rel μ h t := by
  obtain ⟨p1, p2, p3, p4⟩ := hP
  obtain ⟨⟨r0, r1, r2, r3⟩, rm, rz, rc⟩ := hr
  have e8 : μ (h + 1) = μ0 (h + 1) := p1 _ (by omega)
  refine ⟨⟨by omega, by omega, by omega, by omega⟩, fun m m0 m1 => ?_, fun m m0 m1 k k0 k1 => ?_, fun c c0 c1 => ?_⟩
  · rw [e8, (p3 m m0 (by omega)).1]
    refine ⟨(rm m m0 m1).1, fun k k0 k1 => ?_⟩
    rw [(p3 m m0 (by omega)).2 k k0 k1]
    exact (rm m m0 m1).2 k k0 k1
  · rw [e8, (p3 m (by omega) m1).2 k k0 k1]
    exact rz m m0 m1 k k0 k1
  · have q := p4 c c0 (by omega)
    rw [q 0 (by decide) (by decide), q 1 (by decide) (by decide), q 2 (by decide) (by decide), q 3 (by decide) (by decide), q 4 (by decide) (by decide)]
    exact rc c c0 c1
theorem jz_matH7 {μ : jm_M} (h : jh_mats μ 7) {m : Int} (h0 : 0 ≤ m) (h1 : m < 4) : jz_mat (μ 8 m) := jz_mat_of (by have : μ 8 m = 7 + 3 ∨ μ 8 m = 7 + 5 ∨ μ 8 m = 7 + 7 ∨ μ 8 m = 7 + 9 := h.1 m h0 h1; omega)
theorem jz_comH7 {c : Int} (h0 : 0 ≤ c) (h1 : c < 6) : jz_com (18 + c) := jz_com_of (by omega)
theorem jz_matH24 {μ : jm_M} (h : jh_mats μ 24) {m : Int} (h0 : 0 ≤ m) (h1 : m < 4) : jz_mat (μ 25 m) := jz_mat_of (by have : μ 25 m = 24 + 3 ∨ μ 25 m = 24 + 5 ∨ μ 25 m = 24 + 7 ∨ μ 25 m = 24 + 9 := h.1 m h0 h1; omega)
theorem jz_comH24 {c : Int} (h0 : 0 ≤ c) (h1 : c < 6) : jz_com (35 + c) := jz_com_of (by omega)
theorem jz_matH60 {μ : jm_M} (h : jh_mats μ 60) {m : Int} (h0 : 0 ≤ m) (h1 : m < 4) : jz_mat (μ 61 m) := jz_mat_of (by have : μ 61 m = 60 + 3 ∨ μ 61 m = 60 + 5 ∨ μ 61 m = 60 + 7 ∨ μ 61 m = 60 + 9 := h.1 m h0 h1; omega)
theorem jz_comH60 {c : Int} (h0 : 0 ≤ c) (h1 : c < 6) : jz_com (71 + c) := jz_com_of (by omega)
theorem jz_matH77 {μ : jm_M} (h : jh_mats μ 77) {m : Int} (h0 : 0 ≤ m) (h1 : m < 4) : jz_mat (μ 78 m) := jz_mat_of (by have : μ 78 m = 77 + 3 ∨ μ 78 m = 77 + 5 ∨ μ 78 m = 77 + 7 ∨ μ 78 m = 77 + 9 := h.1 m h0 h1; omega)
theorem jz_comH77 {c : Int} (h0 : 0 ≤ c) (h1 : c < 6) : jz_com (88 + c) := jz_com_of (by omega)
set_option maxRecDepth 10000 in
theorem cl_take60_7_c {X : jm_X} {d : Nat} {Q : jv_P} {μ0 : jm_M} (hmD : jh_mats μ0 60) (hmS : jh_mats μ0 7) (k : ∀ μ2, jhp 60 7 μ0 μ2 4 6 → Q [] μ2) : ∀ (n : Nat) (w : Int) (μ : jm_M), 0 ≤ w → w ≤ 6 → 6 - w < n → jhp 60 7 μ0 μ 4 w → jV X (d + 1) jm_p_X4_takeOver Q 34 [some (.inr (.inr 60)), some (.inr (.inr 7)), some (.inl w)] [] μ := by
  intro n
  induction n with
  | zero => intro w μ y0 y1 yn hP; exfalso; omega
  | succ n ih =>
    intro w μ y0 y1 yn hP
    refine jv_iload_n rfl rfl rfl ?_
    refine jv_bipush rfl rfl ?_
    refine jv_icmp_ge rfl rfl rfl (fun c36 => ?_) (fun c36 => ?_)
    · refine jv_return rfl ?_
      have hx : w = 6 := by omega
      rw [hx] at hP
      exact k _ hP
    · refine jv_aload_n rfl rfl rfl (by decide) ?_
      refine jv_getr (w := 62) rfl rfl rfl ⟨by decide, rfl⟩ rfl rfl ?_
      refine jv_iload_n rfl rfl rfl ?_
      refine jv_aaloadv (v := 71 + w) rfl rfl rfl ⟨by decide, by decide, by decide⟩ ⟨by omega, by omega⟩ (by rw [hP.1 62 (by omega)]; exact hmD.2.2 w (by omega) (by omega)) ?_
      refine jv_aload_n rfl rfl rfl (by decide) ?_
      refine jv_getr (w := 9) rfl rfl rfl ⟨by decide, rfl⟩ rfl rfl ?_
      refine jv_iload_n rfl rfl rfl ?_
      refine jv_aaloadv (v := 18 + w) rfl rfl rfl ⟨by decide, by decide, by decide⟩ ⟨by omega, by omega⟩ (by rw [hP.1 9 (by omega)]; exact hmS.2.2 w (by omega) (by omega)) ?_
      refine jv_callV1 rfl rfl rfl (jz_comH60 (c := w) (by omega) (by omega)).1 ⟨(jz_comH60 (c := w) (by omega) (by omega)).2.1, rfl⟩ (Nat.le_of_ble_eq_true rfl) (cl_comTake (jz_comH60 (c := w) (by omega) (by omega)) (jz_comH7 (c := w) (by omega) (by omega)) (by omega) (fun μ45 fμ45 aμ45 => ?_))
      show jV _ _ jm_p_X4_takeOver _ 46 [some (.inr (.inr 60)), some (.inr (.inr 7)), some (.inl w)] [] μ45
      refine jv_iinc (fun x => [some (.inr (.inr 60)), some (.inr (.inr 7)), some (.inl x)]) rfl rfl rfl ⟨by omega, by omega⟩ (fun _ => rfl) (fun x2_46 ex2_46 => ?_)
      refine jv_goto rfl rfl ?_
      refine ih x2_46 μ45 (by omega) (by omega) (by omega) ?_
      rw [ex2_46]
      exact jhp_com (by decide) hmD (by omega) hP fμ45 aμ45
set_option maxRecDepth 10000 in
theorem cl_take60_7_m {X : jm_X} {d : Nat} {Q : jv_P} {μ0 : jm_M} (hmD : jh_mats μ0 60) (hmS : jh_mats μ0 7) (k : ∀ μ2, jhp 60 7 μ0 μ2 4 6 → Q [] μ2) : ∀ (n : Nat) (w : Int) (μ : jm_M), 0 ≤ w → w ≤ 4 → 4 - w < n → jhp 60 7 μ0 μ w 0 → jV X (d + 1) jm_p_X4_takeOver Q 18 [some (.inr (.inr 60)), some (.inr (.inr 7)), some (.inl w)] [] μ := by
  intro n
  induction n with
  | zero => intro w μ y0 y1 yn hP; exfalso; omega
  | succ n ih =>
    intro w μ y0 y1 yn hP
    refine jv_iload_n rfl rfl rfl ?_
    refine jv_iconst rfl rfl ?_
    refine jv_icmp_ge rfl rfl rfl (fun c20 => ?_) (fun c20 => ?_)
    · refine jv_iconst rfl rfl ?_
      refine jv_istore_nK (L2 := [some (.inr (.inr 60)), some (.inr (.inr 7)), some (.inl 0)]) rfl rfl rfl ?_
      have hx : w = 4 := by omega
      rw [hx] at hP
      exact cl_take60_7_c hmD hmS k 7 0 μ (by omega) (by omega) (by omega) hP
    · refine jv_aload_n rfl rfl rfl (by decide) ?_
      refine jv_getr (w := 61) rfl rfl rfl ⟨by decide, rfl⟩ rfl rfl ?_
      refine jv_iload_n rfl rfl rfl ?_
      refine jv_aaloadv (v := μ0 61 w) rfl rfl rfl ⟨by decide, by decide, by decide⟩ ⟨by omega, by omega⟩ (by rw [hP.1 61 (by omega)]) ?_
      refine jv_aload_n rfl rfl rfl (by decide) ?_
      refine jv_getr (w := 8) rfl rfl rfl ⟨by decide, rfl⟩ rfl rfl ?_
      refine jv_iload_n rfl rfl rfl ?_
      refine jv_aaloadv (v := μ0 8 w) rfl rfl rfl ⟨by decide, by decide, by decide⟩ ⟨by omega, by omega⟩ (by rw [hP.1 8 (by omega)]) ?_
      have d1 : μ0 61 w = 60 + 3 ∨ μ0 61 w = 60 + 5 ∨ μ0 61 w = 60 + 7 ∨ μ0 61 w = 60 + 9 := hmD.1 w (by omega) (by omega)
      have d2 : μ0 8 w = 7 + 3 ∨ μ0 8 w = 7 + 5 ∨ μ0 8 w = 7 + 7 ∨ μ0 8 w = 7 + 9 := hmS.1 w (by omega) (by omega)
      refine jv_callV1 rfl rfl rfl (jz_matH60 hmD (m := w) (by omega) (by omega)).1 ⟨(jz_matH60 hmD (m := w) (by omega) (by omega)).2.2.1, rfl⟩ (Nat.le_of_ble_eq_true rfl) (cl_matTake (jz_matH60 hmD (m := w) (by omega) (by omega)) (jz_matH7 hmS (m := w) (by omega) (by omega)) (by omega) (by omega) (fun μ29 fμ29 aμ29 bμ29 => ?_))
      show jV _ _ jm_p_X4_takeOver _ 30 [some (.inr (.inr 60)), some (.inr (.inr 7)), some (.inl w)] [] μ29
      refine jv_iinc (fun x => [some (.inr (.inr 60)), some (.inr (.inr 7)), some (.inl x)]) rfl rfl rfl ⟨by omega, by omega⟩ (fun _ => rfl) (fun x2_30 ex2_30 => ?_)
      refine jv_goto rfl rfl ?_
      refine ih x2_30 μ29 (by omega) (by omega) (by omega) ?_
      rw [ex2_30]
      exact jhp_mat (by decide) hmD hmS (by omega) hP fμ29 aμ29 bμ29
set_option maxRecDepth 10000 in
theorem cl_take60_7 {X : jm_X} {d : Nat} {Q : jv_P} {μ : jm_M}  (hmD : jh_mats μ 60) (hmS : jh_mats μ 7) (k : ∀ μ2, jhp 60 7 μ μ2 4 6 → Q [] μ2) : cV X (d + 2) 39 [.inr (.inr 60), .inr (.inr 7)] μ Q := by
  refine jv_enter (d := d + 1) jm_p_X4_takeOver [some (.inr (.inr 60)), some (.inr (.inr 7)), none] rfl rfl rfl (Nat.le_of_ble_eq_true rfl) rfl rfl ?_
  refine jv_aload_n rfl rfl rfl (by decide) ?_
  refine jv_aload_n rfl rfl rfl (by decide) ?_
  refine jv_geti rfl rfl rfl ⟨by decide, rfl⟩ (by decide) ?_
  refine jv_puti rfl rfl rfl ⟨by decide, rfl⟩ (Or.inl rfl) (fun μ3 eμ3 => ?_)
  refine jv_aload_n rfl rfl rfl (by decide) ?_
  refine jv_aload_n rfl rfl rfl (by decide) ?_
  refine jv_geti rfl rfl rfl ⟨by decide, rfl⟩ (by decide) ?_
  refine jv_puti rfl rfl rfl ⟨by decide, rfl⟩ (Or.inl rfl) (fun μ7 eμ7 => ?_)
  refine jv_aload_n rfl rfl rfl (by decide) ?_
  refine jv_aload_n rfl rfl rfl (by decide) ?_
  refine jv_geti rfl rfl rfl ⟨by decide, rfl⟩ (by decide) ?_
  refine jv_puti rfl rfl rfl ⟨by decide, rfl⟩ (Or.inl rfl) (fun μ11 eμ11 => ?_)
  refine jv_aload_n rfl rfl rfl (by decide) ?_
  refine jv_aload_n rfl rfl rfl (by decide) ?_
  refine jv_geti rfl rfl rfl ⟨by decide, rfl⟩ (by decide) ?_
  refine jv_puti rfl rfl rfl ⟨by decide, rfl⟩ (Or.inl rfl) (fun μ15 eμ15 => ?_)
  refine jv_iconst rfl rfl ?_
  refine jv_istore_nK (L2 := [some (.inr (.inr 60)), some (.inr (.inr 7)), some (.inl 0)]) rfl rfl rfl ?_
  have z1 : ∀ u, u ≠ 60 → μ15 u = μ u := fun u q => by rw [eμ15, jm_uc_ne q, eμ11, jm_uc_ne q, eμ7, jm_uc_ne q, eμ3, jm_uc_ne q]
  have z2 : ∀ u, u ≠ 60 → μ11 u = μ u := fun u q => by rw [eμ11, jm_uc_ne q, eμ7, jm_uc_ne q, eμ3, jm_uc_ne q]
  have z3 : ∀ u, u ≠ 60 → μ7 u = μ u := fun u q => by rw [eμ7, jm_uc_ne q, eμ3, jm_uc_ne q]
  have z4 : ∀ u, u ≠ 60 → μ3 u = μ u := fun u q => by rw [eμ3, jm_uc_ne q]
  have z5 : μ15 60 = jm_u1 (jm_u1 (jm_u1 (jm_u1 (μ 60) 0 (μ 7 0)) 1 (μ 7 1)) 2 (μ 7 2)) 3 (μ 7 3) := by rw [eμ15, jm_uc_self, z2 7 (by decide), eμ11, jm_uc_self, z3 7 (by decide), eμ7, jm_uc_self, z4 7 (by decide), eμ3, jm_uc_self]
  have hP : jhp 60 7 μ μ15 0 0 := ⟨fun z q => z1 z (by omega), by rw [z5]; exact ⟨rfl, rfl, rfl, rfl⟩, fun m m0 m1 => by exfalso; omega, fun c c0 c1 => by exfalso; omega⟩
  exact cl_take60_7_m hmD hmS k 5 0 μ15 (by omega) (by omega) (by omega) hP
set_option maxRecDepth 10000 in
theorem cl_take77_7_c {X : jm_X} {d : Nat} {Q : jv_P} {μ0 : jm_M} (hmD : jh_mats μ0 77) (hmS : jh_mats μ0 7) (k : ∀ μ2, jhp 77 7 μ0 μ2 4 6 → Q [] μ2) : ∀ (n : Nat) (w : Int) (μ : jm_M), 0 ≤ w → w ≤ 6 → 6 - w < n → jhp 77 7 μ0 μ 4 w → jV X (d + 1) jm_p_X4_takeOver Q 34 [some (.inr (.inr 77)), some (.inr (.inr 7)), some (.inl w)] [] μ := by
  intro n
  induction n with
  | zero => intro w μ y0 y1 yn hP; exfalso; omega
  | succ n ih =>
    intro w μ y0 y1 yn hP
    refine jv_iload_n rfl rfl rfl ?_
    refine jv_bipush rfl rfl ?_
    refine jv_icmp_ge rfl rfl rfl (fun c36 => ?_) (fun c36 => ?_)
    · refine jv_return rfl ?_
      have hx : w = 6 := by omega
      rw [hx] at hP
      exact k _ hP
    · refine jv_aload_n rfl rfl rfl (by decide) ?_
      refine jv_getr (w := 79) rfl rfl rfl ⟨by decide, rfl⟩ rfl rfl ?_
      refine jv_iload_n rfl rfl rfl ?_
      refine jv_aaloadv (v := 88 + w) rfl rfl rfl ⟨by decide, by decide, by decide⟩ ⟨by omega, by omega⟩ (by rw [hP.1 79 (by omega)]; exact hmD.2.2 w (by omega) (by omega)) ?_
      refine jv_aload_n rfl rfl rfl (by decide) ?_
      refine jv_getr (w := 9) rfl rfl rfl ⟨by decide, rfl⟩ rfl rfl ?_
      refine jv_iload_n rfl rfl rfl ?_
      refine jv_aaloadv (v := 18 + w) rfl rfl rfl ⟨by decide, by decide, by decide⟩ ⟨by omega, by omega⟩ (by rw [hP.1 9 (by omega)]; exact hmS.2.2 w (by omega) (by omega)) ?_
      refine jv_callV1 rfl rfl rfl (jz_comH77 (c := w) (by omega) (by omega)).1 ⟨(jz_comH77 (c := w) (by omega) (by omega)).2.1, rfl⟩ (Nat.le_of_ble_eq_true rfl) (cl_comTake (jz_comH77 (c := w) (by omega) (by omega)) (jz_comH7 (c := w) (by omega) (by omega)) (by omega) (fun μ45 fμ45 aμ45 => ?_))
      show jV _ _ jm_p_X4_takeOver _ 46 [some (.inr (.inr 77)), some (.inr (.inr 7)), some (.inl w)] [] μ45
      refine jv_iinc (fun x => [some (.inr (.inr 77)), some (.inr (.inr 7)), some (.inl x)]) rfl rfl rfl ⟨by omega, by omega⟩ (fun _ => rfl) (fun x2_46 ex2_46 => ?_)
      refine jv_goto rfl rfl ?_
      refine ih x2_46 μ45 (by omega) (by omega) (by omega) ?_
      rw [ex2_46]
      exact jhp_com (by decide) hmD (by omega) hP fμ45 aμ45
set_option maxRecDepth 10000 in
theorem cl_take77_7_m {X : jm_X} {d : Nat} {Q : jv_P} {μ0 : jm_M} (hmD : jh_mats μ0 77) (hmS : jh_mats μ0 7) (k : ∀ μ2, jhp 77 7 μ0 μ2 4 6 → Q [] μ2) : ∀ (n : Nat) (w : Int) (μ : jm_M), 0 ≤ w → w ≤ 4 → 4 - w < n → jhp 77 7 μ0 μ w 0 → jV X (d + 1) jm_p_X4_takeOver Q 18 [some (.inr (.inr 77)), some (.inr (.inr 7)), some (.inl w)] [] μ := by
  intro n
  induction n with
  | zero => intro w μ y0 y1 yn hP; exfalso; omega
  | succ n ih =>
    intro w μ y0 y1 yn hP
    refine jv_iload_n rfl rfl rfl ?_
    refine jv_iconst rfl rfl ?_
    refine jv_icmp_ge rfl rfl rfl (fun c20 => ?_) (fun c20 => ?_)
    · refine jv_iconst rfl rfl ?_
      refine jv_istore_nK (L2 := [some (.inr (.inr 77)), some (.inr (.inr 7)), some (.inl 0)]) rfl rfl rfl ?_
      have hx : w = 4 := by omega
      rw [hx] at hP
      exact cl_take77_7_c hmD hmS k 7 0 μ (by omega) (by omega) (by omega) hP
    · refine jv_aload_n rfl rfl rfl (by decide) ?_
      refine jv_getr (w := 78) rfl rfl rfl ⟨by decide, rfl⟩ rfl rfl ?_
      refine jv_iload_n rfl rfl rfl ?_
      refine jv_aaloadv (v := μ0 78 w) rfl rfl rfl ⟨by decide, by decide, by decide⟩ ⟨by omega, by omega⟩ (by rw [hP.1 78 (by omega)]) ?_
      refine jv_aload_n rfl rfl rfl (by decide) ?_
      refine jv_getr (w := 8) rfl rfl rfl ⟨by decide, rfl⟩ rfl rfl ?_
      refine jv_iload_n rfl rfl rfl ?_
      refine jv_aaloadv (v := μ0 8 w) rfl rfl rfl ⟨by decide, by decide, by decide⟩ ⟨by omega, by omega⟩ (by rw [hP.1 8 (by omega)]) ?_
      have d1 : μ0 78 w = 77 + 3 ∨ μ0 78 w = 77 + 5 ∨ μ0 78 w = 77 + 7 ∨ μ0 78 w = 77 + 9 := hmD.1 w (by omega) (by omega)
      have d2 : μ0 8 w = 7 + 3 ∨ μ0 8 w = 7 + 5 ∨ μ0 8 w = 7 + 7 ∨ μ0 8 w = 7 + 9 := hmS.1 w (by omega) (by omega)
      refine jv_callV1 rfl rfl rfl (jz_matH77 hmD (m := w) (by omega) (by omega)).1 ⟨(jz_matH77 hmD (m := w) (by omega) (by omega)).2.2.1, rfl⟩ (Nat.le_of_ble_eq_true rfl) (cl_matTake (jz_matH77 hmD (m := w) (by omega) (by omega)) (jz_matH7 hmS (m := w) (by omega) (by omega)) (by omega) (by omega) (fun μ29 fμ29 aμ29 bμ29 => ?_))
      show jV _ _ jm_p_X4_takeOver _ 30 [some (.inr (.inr 77)), some (.inr (.inr 7)), some (.inl w)] [] μ29
      refine jv_iinc (fun x => [some (.inr (.inr 77)), some (.inr (.inr 7)), some (.inl x)]) rfl rfl rfl ⟨by omega, by omega⟩ (fun _ => rfl) (fun x2_30 ex2_30 => ?_)
      refine jv_goto rfl rfl ?_
      refine ih x2_30 μ29 (by omega) (by omega) (by omega) ?_
      rw [ex2_30]
      exact jhp_mat (by decide) hmD hmS (by omega) hP fμ29 aμ29 bμ29
set_option maxRecDepth 10000 in
theorem cl_take77_7 {X : jm_X} {d : Nat} {Q : jv_P} {μ : jm_M}  (hmD : jh_mats μ 77) (hmS : jh_mats μ 7) (k : ∀ μ2, jhp 77 7 μ μ2 4 6 → Q [] μ2) : cV X (d + 2) 39 [.inr (.inr 77), .inr (.inr 7)] μ Q := by
  refine jv_enter (d := d + 1) jm_p_X4_takeOver [some (.inr (.inr 77)), some (.inr (.inr 7)), none] rfl rfl rfl (Nat.le_of_ble_eq_true rfl) rfl rfl ?_
  refine jv_aload_n rfl rfl rfl (by decide) ?_
  refine jv_aload_n rfl rfl rfl (by decide) ?_
  refine jv_geti rfl rfl rfl ⟨by decide, rfl⟩ (by decide) ?_
  refine jv_puti rfl rfl rfl ⟨by decide, rfl⟩ (Or.inl rfl) (fun μ3 eμ3 => ?_)
  refine jv_aload_n rfl rfl rfl (by decide) ?_
  refine jv_aload_n rfl rfl rfl (by decide) ?_
  refine jv_geti rfl rfl rfl ⟨by decide, rfl⟩ (by decide) ?_
  refine jv_puti rfl rfl rfl ⟨by decide, rfl⟩ (Or.inl rfl) (fun μ7 eμ7 => ?_)
  refine jv_aload_n rfl rfl rfl (by decide) ?_
  refine jv_aload_n rfl rfl rfl (by decide) ?_
  refine jv_geti rfl rfl rfl ⟨by decide, rfl⟩ (by decide) ?_
  refine jv_puti rfl rfl rfl ⟨by decide, rfl⟩ (Or.inl rfl) (fun μ11 eμ11 => ?_)
  refine jv_aload_n rfl rfl rfl (by decide) ?_
  refine jv_aload_n rfl rfl rfl (by decide) ?_
  refine jv_geti rfl rfl rfl ⟨by decide, rfl⟩ (by decide) ?_
  refine jv_puti rfl rfl rfl ⟨by decide, rfl⟩ (Or.inl rfl) (fun μ15 eμ15 => ?_)
  refine jv_iconst rfl rfl ?_
  refine jv_istore_nK (L2 := [some (.inr (.inr 77)), some (.inr (.inr 7)), some (.inl 0)]) rfl rfl rfl ?_
  have z1 : ∀ u, u ≠ 77 → μ15 u = μ u := fun u q => by rw [eμ15, jm_uc_ne q, eμ11, jm_uc_ne q, eμ7, jm_uc_ne q, eμ3, jm_uc_ne q]
  have z2 : ∀ u, u ≠ 77 → μ11 u = μ u := fun u q => by rw [eμ11, jm_uc_ne q, eμ7, jm_uc_ne q, eμ3, jm_uc_ne q]
  have z3 : ∀ u, u ≠ 77 → μ7 u = μ u := fun u q => by rw [eμ7, jm_uc_ne q, eμ3, jm_uc_ne q]
  have z4 : ∀ u, u ≠ 77 → μ3 u = μ u := fun u q => by rw [eμ3, jm_uc_ne q]
  have z5 : μ15 77 = jm_u1 (jm_u1 (jm_u1 (jm_u1 (μ 77) 0 (μ 7 0)) 1 (μ 7 1)) 2 (μ 7 2)) 3 (μ 7 3) := by rw [eμ15, jm_uc_self, z2 7 (by decide), eμ11, jm_uc_self, z3 7 (by decide), eμ7, jm_uc_self, z4 7 (by decide), eμ3, jm_uc_self]
  have hP : jhp 77 7 μ μ15 0 0 := ⟨fun z q => z1 z (by omega), by rw [z5]; exact ⟨rfl, rfl, rfl, rfl⟩, fun m m0 m1 => by exfalso; omega, fun c c0 c1 => by exfalso; omega⟩
  exact cl_take77_7_m hmD hmS k 5 0 μ15 (by omega) (by omega) (by omega) hP
set_option maxRecDepth 10000 in
theorem cl_take7_60_c {X : jm_X} {d : Nat} {Q : jv_P} {μ0 : jm_M} (hmD : jh_mats μ0 7) (hmS : jh_mats μ0 60) (k : ∀ μ2, jhp 7 60 μ0 μ2 4 6 → Q [] μ2) : ∀ (n : Nat) (w : Int) (μ : jm_M), 0 ≤ w → w ≤ 6 → 6 - w < n → jhp 7 60 μ0 μ 4 w → jV X (d + 1) jm_p_X4_takeOver Q 34 [some (.inr (.inr 7)), some (.inr (.inr 60)), some (.inl w)] [] μ := by
  intro n
  induction n with
  | zero => intro w μ y0 y1 yn hP; exfalso; omega
  | succ n ih =>
    intro w μ y0 y1 yn hP
    refine jv_iload_n rfl rfl rfl ?_
    refine jv_bipush rfl rfl ?_
    refine jv_icmp_ge rfl rfl rfl (fun c36 => ?_) (fun c36 => ?_)
    · refine jv_return rfl ?_
      have hx : w = 6 := by omega
      rw [hx] at hP
      exact k _ hP
    · refine jv_aload_n rfl rfl rfl (by decide) ?_
      refine jv_getr (w := 9) rfl rfl rfl ⟨by decide, rfl⟩ rfl rfl ?_
      refine jv_iload_n rfl rfl rfl ?_
      refine jv_aaloadv (v := 18 + w) rfl rfl rfl ⟨by decide, by decide, by decide⟩ ⟨by omega, by omega⟩ (by rw [hP.1 9 (by omega)]; exact hmD.2.2 w (by omega) (by omega)) ?_
      refine jv_aload_n rfl rfl rfl (by decide) ?_
      refine jv_getr (w := 62) rfl rfl rfl ⟨by decide, rfl⟩ rfl rfl ?_
      refine jv_iload_n rfl rfl rfl ?_
      refine jv_aaloadv (v := 71 + w) rfl rfl rfl ⟨by decide, by decide, by decide⟩ ⟨by omega, by omega⟩ (by rw [hP.1 62 (by omega)]; exact hmS.2.2 w (by omega) (by omega)) ?_
      refine jv_callV1 rfl rfl rfl (jz_comH7 (c := w) (by omega) (by omega)).1 ⟨(jz_comH7 (c := w) (by omega) (by omega)).2.1, rfl⟩ (Nat.le_of_ble_eq_true rfl) (cl_comTake (jz_comH7 (c := w) (by omega) (by omega)) (jz_comH60 (c := w) (by omega) (by omega)) (by omega) (fun μ45 fμ45 aμ45 => ?_))
      show jV _ _ jm_p_X4_takeOver _ 46 [some (.inr (.inr 7)), some (.inr (.inr 60)), some (.inl w)] [] μ45
      refine jv_iinc (fun x => [some (.inr (.inr 7)), some (.inr (.inr 60)), some (.inl x)]) rfl rfl rfl ⟨by omega, by omega⟩ (fun _ => rfl) (fun x2_46 ex2_46 => ?_)
      refine jv_goto rfl rfl ?_
      refine ih x2_46 μ45 (by omega) (by omega) (by omega) ?_
      rw [ex2_46]
      exact jhp_com (by decide) hmD (by omega) hP fμ45 aμ45
set_option maxRecDepth 10000 in
theorem cl_take7_60_m {X : jm_X} {d : Nat} {Q : jv_P} {μ0 : jm_M} (hmD : jh_mats μ0 7) (hmS : jh_mats μ0 60) (k : ∀ μ2, jhp 7 60 μ0 μ2 4 6 → Q [] μ2) : ∀ (n : Nat) (w : Int) (μ : jm_M), 0 ≤ w → w ≤ 4 → 4 - w < n → jhp 7 60 μ0 μ w 0 → jV X (d + 1) jm_p_X4_takeOver Q 18 [some (.inr (.inr 7)), some (.inr (.inr 60)), some (.inl w)] [] μ := by
  intro n
  induction n with
  | zero => intro w μ y0 y1 yn hP; exfalso; omega
  | succ n ih =>
    intro w μ y0 y1 yn hP
    refine jv_iload_n rfl rfl rfl ?_
    refine jv_iconst rfl rfl ?_
    refine jv_icmp_ge rfl rfl rfl (fun c20 => ?_) (fun c20 => ?_)
    · refine jv_iconst rfl rfl ?_
      refine jv_istore_nK (L2 := [some (.inr (.inr 7)), some (.inr (.inr 60)), some (.inl 0)]) rfl rfl rfl ?_
      have hx : w = 4 := by omega
      rw [hx] at hP
      exact cl_take7_60_c hmD hmS k 7 0 μ (by omega) (by omega) (by omega) hP
    · refine jv_aload_n rfl rfl rfl (by decide) ?_
      refine jv_getr (w := 8) rfl rfl rfl ⟨by decide, rfl⟩ rfl rfl ?_
      refine jv_iload_n rfl rfl rfl ?_
      refine jv_aaloadv (v := μ0 8 w) rfl rfl rfl ⟨by decide, by decide, by decide⟩ ⟨by omega, by omega⟩ (by rw [hP.1 8 (by omega)]) ?_
      refine jv_aload_n rfl rfl rfl (by decide) ?_
      refine jv_getr (w := 61) rfl rfl rfl ⟨by decide, rfl⟩ rfl rfl ?_
      refine jv_iload_n rfl rfl rfl ?_
      refine jv_aaloadv (v := μ0 61 w) rfl rfl rfl ⟨by decide, by decide, by decide⟩ ⟨by omega, by omega⟩ (by rw [hP.1 61 (by omega)]) ?_
      have d1 : μ0 8 w = 7 + 3 ∨ μ0 8 w = 7 + 5 ∨ μ0 8 w = 7 + 7 ∨ μ0 8 w = 7 + 9 := hmD.1 w (by omega) (by omega)
      have d2 : μ0 61 w = 60 + 3 ∨ μ0 61 w = 60 + 5 ∨ μ0 61 w = 60 + 7 ∨ μ0 61 w = 60 + 9 := hmS.1 w (by omega) (by omega)
      refine jv_callV1 rfl rfl rfl (jz_matH7 hmD (m := w) (by omega) (by omega)).1 ⟨(jz_matH7 hmD (m := w) (by omega) (by omega)).2.2.1, rfl⟩ (Nat.le_of_ble_eq_true rfl) (cl_matTake (jz_matH7 hmD (m := w) (by omega) (by omega)) (jz_matH60 hmS (m := w) (by omega) (by omega)) (by omega) (by omega) (fun μ29 fμ29 aμ29 bμ29 => ?_))
      show jV _ _ jm_p_X4_takeOver _ 30 [some (.inr (.inr 7)), some (.inr (.inr 60)), some (.inl w)] [] μ29
      refine jv_iinc (fun x => [some (.inr (.inr 7)), some (.inr (.inr 60)), some (.inl x)]) rfl rfl rfl ⟨by omega, by omega⟩ (fun _ => rfl) (fun x2_30 ex2_30 => ?_)
      refine jv_goto rfl rfl ?_
      refine ih x2_30 μ29 (by omega) (by omega) (by omega) ?_
      rw [ex2_30]
      exact jhp_mat (by decide) hmD hmS (by omega) hP fμ29 aμ29 bμ29
set_option maxRecDepth 10000 in
theorem cl_take7_60 {X : jm_X} {d : Nat} {Q : jv_P} {μ : jm_M}  (hmD : jh_mats μ 7) (hmS : jh_mats μ 60) (k : ∀ μ2, jhp 7 60 μ μ2 4 6 → Q [] μ2) : cV X (d + 2) 39 [.inr (.inr 7), .inr (.inr 60)] μ Q := by
  refine jv_enter (d := d + 1) jm_p_X4_takeOver [some (.inr (.inr 7)), some (.inr (.inr 60)), none] rfl rfl rfl (Nat.le_of_ble_eq_true rfl) rfl rfl ?_
  refine jv_aload_n rfl rfl rfl (by decide) ?_
  refine jv_aload_n rfl rfl rfl (by decide) ?_
  refine jv_geti rfl rfl rfl ⟨by decide, rfl⟩ (by decide) ?_
  refine jv_puti rfl rfl rfl ⟨by decide, rfl⟩ (Or.inl rfl) (fun μ3 eμ3 => ?_)
  refine jv_aload_n rfl rfl rfl (by decide) ?_
  refine jv_aload_n rfl rfl rfl (by decide) ?_
  refine jv_geti rfl rfl rfl ⟨by decide, rfl⟩ (by decide) ?_
  refine jv_puti rfl rfl rfl ⟨by decide, rfl⟩ (Or.inl rfl) (fun μ7 eμ7 => ?_)
  refine jv_aload_n rfl rfl rfl (by decide) ?_
  refine jv_aload_n rfl rfl rfl (by decide) ?_
  refine jv_geti rfl rfl rfl ⟨by decide, rfl⟩ (by decide) ?_
  refine jv_puti rfl rfl rfl ⟨by decide, rfl⟩ (Or.inl rfl) (fun μ11 eμ11 => ?_)
  refine jv_aload_n rfl rfl rfl (by decide) ?_
  refine jv_aload_n rfl rfl rfl (by decide) ?_
  refine jv_geti rfl rfl rfl ⟨by decide, rfl⟩ (by decide) ?_
  refine jv_puti rfl rfl rfl ⟨by decide, rfl⟩ (Or.inl rfl) (fun μ15 eμ15 => ?_)
  refine jv_iconst rfl rfl ?_
  refine jv_istore_nK (L2 := [some (.inr (.inr 7)), some (.inr (.inr 60)), some (.inl 0)]) rfl rfl rfl ?_
  have z1 : ∀ u, u ≠ 7 → μ15 u = μ u := fun u q => by rw [eμ15, jm_uc_ne q, eμ11, jm_uc_ne q, eμ7, jm_uc_ne q, eμ3, jm_uc_ne q]
  have z2 : ∀ u, u ≠ 7 → μ11 u = μ u := fun u q => by rw [eμ11, jm_uc_ne q, eμ7, jm_uc_ne q, eμ3, jm_uc_ne q]
  have z3 : ∀ u, u ≠ 7 → μ7 u = μ u := fun u q => by rw [eμ7, jm_uc_ne q, eμ3, jm_uc_ne q]
  have z4 : ∀ u, u ≠ 7 → μ3 u = μ u := fun u q => by rw [eμ3, jm_uc_ne q]
  have z5 : μ15 7 = jm_u1 (jm_u1 (jm_u1 (jm_u1 (μ 7) 0 (μ 60 0)) 1 (μ 60 1)) 2 (μ 60 2)) 3 (μ 60 3) := by rw [eμ15, jm_uc_self, z2 60 (by decide), eμ11, jm_uc_self, z3 60 (by decide), eμ7, jm_uc_self, z4 60 (by decide), eμ3, jm_uc_self]
  have hP : jhp 7 60 μ μ15 0 0 := ⟨fun z q => z1 z (by omega), by rw [z5]; exact ⟨rfl, rfl, rfl, rfl⟩, fun m m0 m1 => by exfalso; omega, fun c c0 c1 => by exfalso; omega⟩
  exact cl_take7_60_m hmD hmS k 5 0 μ15 (by omega) (by omega) (by omega) hP
set_option maxRecDepth 10000 in
theorem cl_take7_77_c {X : jm_X} {d : Nat} {Q : jv_P} {μ0 : jm_M} (hmD : jh_mats μ0 7) (hmS : jh_mats μ0 77) (k : ∀ μ2, jhp 7 77 μ0 μ2 4 6 → Q [] μ2) : ∀ (n : Nat) (w : Int) (μ : jm_M), 0 ≤ w → w ≤ 6 → 6 - w < n → jhp 7 77 μ0 μ 4 w → jV X (d + 1) jm_p_X4_takeOver Q 34 [some (.inr (.inr 7)), some (.inr (.inr 77)), some (.inl w)] [] μ := by
  intro n
  induction n with
  | zero => intro w μ y0 y1 yn hP; exfalso; omega
  | succ n ih =>
    intro w μ y0 y1 yn hP
    refine jv_iload_n rfl rfl rfl ?_
    refine jv_bipush rfl rfl ?_
    refine jv_icmp_ge rfl rfl rfl (fun c36 => ?_) (fun c36 => ?_)
    · refine jv_return rfl ?_
      have hx : w = 6 := by omega
      rw [hx] at hP
      exact k _ hP
    · refine jv_aload_n rfl rfl rfl (by decide) ?_
      refine jv_getr (w := 9) rfl rfl rfl ⟨by decide, rfl⟩ rfl rfl ?_
      refine jv_iload_n rfl rfl rfl ?_
      refine jv_aaloadv (v := 18 + w) rfl rfl rfl ⟨by decide, by decide, by decide⟩ ⟨by omega, by omega⟩ (by rw [hP.1 9 (by omega)]; exact hmD.2.2 w (by omega) (by omega)) ?_
      refine jv_aload_n rfl rfl rfl (by decide) ?_
      refine jv_getr (w := 79) rfl rfl rfl ⟨by decide, rfl⟩ rfl rfl ?_
      refine jv_iload_n rfl rfl rfl ?_
      refine jv_aaloadv (v := 88 + w) rfl rfl rfl ⟨by decide, by decide, by decide⟩ ⟨by omega, by omega⟩ (by rw [hP.1 79 (by omega)]; exact hmS.2.2 w (by omega) (by omega)) ?_
      refine jv_callV1 rfl rfl rfl (jz_comH7 (c := w) (by omega) (by omega)).1 ⟨(jz_comH7 (c := w) (by omega) (by omega)).2.1, rfl⟩ (Nat.le_of_ble_eq_true rfl) (cl_comTake (jz_comH7 (c := w) (by omega) (by omega)) (jz_comH77 (c := w) (by omega) (by omega)) (by omega) (fun μ45 fμ45 aμ45 => ?_))
      show jV _ _ jm_p_X4_takeOver _ 46 [some (.inr (.inr 7)), some (.inr (.inr 77)), some (.inl w)] [] μ45
      refine jv_iinc (fun x => [some (.inr (.inr 7)), some (.inr (.inr 77)), some (.inl x)]) rfl rfl rfl ⟨by omega, by omega⟩ (fun _ => rfl) (fun x2_46 ex2_46 => ?_)
      refine jv_goto rfl rfl ?_
      refine ih x2_46 μ45 (by omega) (by omega) (by omega) ?_
      rw [ex2_46]
      exact jhp_com (by decide) hmD (by omega) hP fμ45 aμ45
set_option maxRecDepth 10000 in
theorem cl_take7_77_m {X : jm_X} {d : Nat} {Q : jv_P} {μ0 : jm_M} (hmD : jh_mats μ0 7) (hmS : jh_mats μ0 77) (k : ∀ μ2, jhp 7 77 μ0 μ2 4 6 → Q [] μ2) : ∀ (n : Nat) (w : Int) (μ : jm_M), 0 ≤ w → w ≤ 4 → 4 - w < n → jhp 7 77 μ0 μ w 0 → jV X (d + 1) jm_p_X4_takeOver Q 18 [some (.inr (.inr 7)), some (.inr (.inr 77)), some (.inl w)] [] μ := by
  intro n
  induction n with
  | zero => intro w μ y0 y1 yn hP; exfalso; omega
  | succ n ih =>
    intro w μ y0 y1 yn hP
    refine jv_iload_n rfl rfl rfl ?_
    refine jv_iconst rfl rfl ?_
    refine jv_icmp_ge rfl rfl rfl (fun c20 => ?_) (fun c20 => ?_)
    · refine jv_iconst rfl rfl ?_
      refine jv_istore_nK (L2 := [some (.inr (.inr 7)), some (.inr (.inr 77)), some (.inl 0)]) rfl rfl rfl ?_
      have hx : w = 4 := by omega
      rw [hx] at hP
      exact cl_take7_77_c hmD hmS k 7 0 μ (by omega) (by omega) (by omega) hP
    · refine jv_aload_n rfl rfl rfl (by decide) ?_
      refine jv_getr (w := 8) rfl rfl rfl ⟨by decide, rfl⟩ rfl rfl ?_
      refine jv_iload_n rfl rfl rfl ?_
      refine jv_aaloadv (v := μ0 8 w) rfl rfl rfl ⟨by decide, by decide, by decide⟩ ⟨by omega, by omega⟩ (by rw [hP.1 8 (by omega)]) ?_
      refine jv_aload_n rfl rfl rfl (by decide) ?_
      refine jv_getr (w := 78) rfl rfl rfl ⟨by decide, rfl⟩ rfl rfl ?_
      refine jv_iload_n rfl rfl rfl ?_
      refine jv_aaloadv (v := μ0 78 w) rfl rfl rfl ⟨by decide, by decide, by decide⟩ ⟨by omega, by omega⟩ (by rw [hP.1 78 (by omega)]) ?_
      have d1 : μ0 8 w = 7 + 3 ∨ μ0 8 w = 7 + 5 ∨ μ0 8 w = 7 + 7 ∨ μ0 8 w = 7 + 9 := hmD.1 w (by omega) (by omega)
      have d2 : μ0 78 w = 77 + 3 ∨ μ0 78 w = 77 + 5 ∨ μ0 78 w = 77 + 7 ∨ μ0 78 w = 77 + 9 := hmS.1 w (by omega) (by omega)
      refine jv_callV1 rfl rfl rfl (jz_matH7 hmD (m := w) (by omega) (by omega)).1 ⟨(jz_matH7 hmD (m := w) (by omega) (by omega)).2.2.1, rfl⟩ (Nat.le_of_ble_eq_true rfl) (cl_matTake (jz_matH7 hmD (m := w) (by omega) (by omega)) (jz_matH77 hmS (m := w) (by omega) (by omega)) (by omega) (by omega) (fun μ29 fμ29 aμ29 bμ29 => ?_))
      show jV _ _ jm_p_X4_takeOver _ 30 [some (.inr (.inr 7)), some (.inr (.inr 77)), some (.inl w)] [] μ29
      refine jv_iinc (fun x => [some (.inr (.inr 7)), some (.inr (.inr 77)), some (.inl x)]) rfl rfl rfl ⟨by omega, by omega⟩ (fun _ => rfl) (fun x2_30 ex2_30 => ?_)
      refine jv_goto rfl rfl ?_
      refine ih x2_30 μ29 (by omega) (by omega) (by omega) ?_
      rw [ex2_30]
      exact jhp_mat (by decide) hmD hmS (by omega) hP fμ29 aμ29 bμ29
set_option maxRecDepth 10000 in
theorem cl_take7_77 {X : jm_X} {d : Nat} {Q : jv_P} {μ : jm_M}  (hmD : jh_mats μ 7) (hmS : jh_mats μ 77) (k : ∀ μ2, jhp 7 77 μ μ2 4 6 → Q [] μ2) : cV X (d + 2) 39 [.inr (.inr 7), .inr (.inr 77)] μ Q := by
  refine jv_enter (d := d + 1) jm_p_X4_takeOver [some (.inr (.inr 7)), some (.inr (.inr 77)), none] rfl rfl rfl (Nat.le_of_ble_eq_true rfl) rfl rfl ?_
  refine jv_aload_n rfl rfl rfl (by decide) ?_
  refine jv_aload_n rfl rfl rfl (by decide) ?_
  refine jv_geti rfl rfl rfl ⟨by decide, rfl⟩ (by decide) ?_
  refine jv_puti rfl rfl rfl ⟨by decide, rfl⟩ (Or.inl rfl) (fun μ3 eμ3 => ?_)
  refine jv_aload_n rfl rfl rfl (by decide) ?_
  refine jv_aload_n rfl rfl rfl (by decide) ?_
  refine jv_geti rfl rfl rfl ⟨by decide, rfl⟩ (by decide) ?_
  refine jv_puti rfl rfl rfl ⟨by decide, rfl⟩ (Or.inl rfl) (fun μ7 eμ7 => ?_)
  refine jv_aload_n rfl rfl rfl (by decide) ?_
  refine jv_aload_n rfl rfl rfl (by decide) ?_
  refine jv_geti rfl rfl rfl ⟨by decide, rfl⟩ (by decide) ?_
  refine jv_puti rfl rfl rfl ⟨by decide, rfl⟩ (Or.inl rfl) (fun μ11 eμ11 => ?_)
  refine jv_aload_n rfl rfl rfl (by decide) ?_
  refine jv_aload_n rfl rfl rfl (by decide) ?_
  refine jv_geti rfl rfl rfl ⟨by decide, rfl⟩ (by decide) ?_
  refine jv_puti rfl rfl rfl ⟨by decide, rfl⟩ (Or.inl rfl) (fun μ15 eμ15 => ?_)
  refine jv_iconst rfl rfl ?_
  refine jv_istore_nK (L2 := [some (.inr (.inr 7)), some (.inr (.inr 77)), some (.inl 0)]) rfl rfl rfl ?_
  have z1 : ∀ u, u ≠ 7 → μ15 u = μ u := fun u q => by rw [eμ15, jm_uc_ne q, eμ11, jm_uc_ne q, eμ7, jm_uc_ne q, eμ3, jm_uc_ne q]
  have z2 : ∀ u, u ≠ 7 → μ11 u = μ u := fun u q => by rw [eμ11, jm_uc_ne q, eμ7, jm_uc_ne q, eμ3, jm_uc_ne q]
  have z3 : ∀ u, u ≠ 7 → μ7 u = μ u := fun u q => by rw [eμ7, jm_uc_ne q, eμ3, jm_uc_ne q]
  have z4 : ∀ u, u ≠ 7 → μ3 u = μ u := fun u q => by rw [eμ3, jm_uc_ne q]
  have z5 : μ15 7 = jm_u1 (jm_u1 (jm_u1 (jm_u1 (μ 7) 0 (μ 77 0)) 1 (μ 77 1)) 2 (μ 77 2)) 3 (μ 77 3) := by rw [eμ15, jm_uc_self, z2 77 (by decide), eμ11, jm_uc_self, z3 77 (by decide), eμ7, jm_uc_self, z4 77 (by decide), eμ3, jm_uc_self]
  have hP : jhp 7 77 μ μ15 0 0 := ⟨fun z q => z1 z (by omega), by rw [z5]; exact ⟨rfl, rfl, rfl, rfl⟩, fun m m0 m1 => by exfalso; omega, fun c c0 c1 => by exfalso; omega⟩
  exact cl_take7_77_m hmD hmS k 5 0 μ15 (by omega) (by omega) (by omega) hP
set_option maxRecDepth 10000 in
theorem cl_take7_24_c {X : jm_X} {d : Nat} {Q : jv_P} {μ0 : jm_M} (hmD : jh_mats μ0 7) (hmS : jh_mats μ0 24) (k : ∀ μ2, jhp 7 24 μ0 μ2 4 6 → Q [] μ2) : ∀ (n : Nat) (w : Int) (μ : jm_M), 0 ≤ w → w ≤ 6 → 6 - w < n → jhp 7 24 μ0 μ 4 w → jV X (d + 1) jm_p_X4_takeOver Q 34 [some (.inr (.inr 7)), some (.inr (.inr 24)), some (.inl w)] [] μ := by
  intro n
  induction n with
  | zero => intro w μ y0 y1 yn hP; exfalso; omega
  | succ n ih =>
    intro w μ y0 y1 yn hP
    refine jv_iload_n rfl rfl rfl ?_
    refine jv_bipush rfl rfl ?_
    refine jv_icmp_ge rfl rfl rfl (fun c36 => ?_) (fun c36 => ?_)
    · refine jv_return rfl ?_
      have hx : w = 6 := by omega
      rw [hx] at hP
      exact k _ hP
    · refine jv_aload_n rfl rfl rfl (by decide) ?_
      refine jv_getr (w := 9) rfl rfl rfl ⟨by decide, rfl⟩ rfl rfl ?_
      refine jv_iload_n rfl rfl rfl ?_
      refine jv_aaloadv (v := 18 + w) rfl rfl rfl ⟨by decide, by decide, by decide⟩ ⟨by omega, by omega⟩ (by rw [hP.1 9 (by omega)]; exact hmD.2.2 w (by omega) (by omega)) ?_
      refine jv_aload_n rfl rfl rfl (by decide) ?_
      refine jv_getr (w := 26) rfl rfl rfl ⟨by decide, rfl⟩ rfl rfl ?_
      refine jv_iload_n rfl rfl rfl ?_
      refine jv_aaloadv (v := 35 + w) rfl rfl rfl ⟨by decide, by decide, by decide⟩ ⟨by omega, by omega⟩ (by rw [hP.1 26 (by omega)]; exact hmS.2.2 w (by omega) (by omega)) ?_
      refine jv_callV1 rfl rfl rfl (jz_comH7 (c := w) (by omega) (by omega)).1 ⟨(jz_comH7 (c := w) (by omega) (by omega)).2.1, rfl⟩ (Nat.le_of_ble_eq_true rfl) (cl_comTake (jz_comH7 (c := w) (by omega) (by omega)) (jz_comH24 (c := w) (by omega) (by omega)) (by omega) (fun μ45 fμ45 aμ45 => ?_))
      show jV _ _ jm_p_X4_takeOver _ 46 [some (.inr (.inr 7)), some (.inr (.inr 24)), some (.inl w)] [] μ45
      refine jv_iinc (fun x => [some (.inr (.inr 7)), some (.inr (.inr 24)), some (.inl x)]) rfl rfl rfl ⟨by omega, by omega⟩ (fun _ => rfl) (fun x2_46 ex2_46 => ?_)
      refine jv_goto rfl rfl ?_
      refine ih x2_46 μ45 (by omega) (by omega) (by omega) ?_
      rw [ex2_46]
      exact jhp_com (by decide) hmD (by omega) hP fμ45 aμ45
set_option maxRecDepth 10000 in
theorem cl_take7_24_m {X : jm_X} {d : Nat} {Q : jv_P} {μ0 : jm_M} (hmD : jh_mats μ0 7) (hmS : jh_mats μ0 24) (k : ∀ μ2, jhp 7 24 μ0 μ2 4 6 → Q [] μ2) : ∀ (n : Nat) (w : Int) (μ : jm_M), 0 ≤ w → w ≤ 4 → 4 - w < n → jhp 7 24 μ0 μ w 0 → jV X (d + 1) jm_p_X4_takeOver Q 18 [some (.inr (.inr 7)), some (.inr (.inr 24)), some (.inl w)] [] μ := by
  intro n
  induction n with
  | zero => intro w μ y0 y1 yn hP; exfalso; omega
  | succ n ih =>
    intro w μ y0 y1 yn hP
    refine jv_iload_n rfl rfl rfl ?_
    refine jv_iconst rfl rfl ?_
    refine jv_icmp_ge rfl rfl rfl (fun c20 => ?_) (fun c20 => ?_)
    · refine jv_iconst rfl rfl ?_
      refine jv_istore_nK (L2 := [some (.inr (.inr 7)), some (.inr (.inr 24)), some (.inl 0)]) rfl rfl rfl ?_
      have hx : w = 4 := by omega
      rw [hx] at hP
      exact cl_take7_24_c hmD hmS k 7 0 μ (by omega) (by omega) (by omega) hP
    · refine jv_aload_n rfl rfl rfl (by decide) ?_
      refine jv_getr (w := 8) rfl rfl rfl ⟨by decide, rfl⟩ rfl rfl ?_
      refine jv_iload_n rfl rfl rfl ?_
      refine jv_aaloadv (v := μ0 8 w) rfl rfl rfl ⟨by decide, by decide, by decide⟩ ⟨by omega, by omega⟩ (by rw [hP.1 8 (by omega)]) ?_
      refine jv_aload_n rfl rfl rfl (by decide) ?_
      refine jv_getr (w := 25) rfl rfl rfl ⟨by decide, rfl⟩ rfl rfl ?_
      refine jv_iload_n rfl rfl rfl ?_
      refine jv_aaloadv (v := μ0 25 w) rfl rfl rfl ⟨by decide, by decide, by decide⟩ ⟨by omega, by omega⟩ (by rw [hP.1 25 (by omega)]) ?_
      have d1 : μ0 8 w = 7 + 3 ∨ μ0 8 w = 7 + 5 ∨ μ0 8 w = 7 + 7 ∨ μ0 8 w = 7 + 9 := hmD.1 w (by omega) (by omega)
      have d2 : μ0 25 w = 24 + 3 ∨ μ0 25 w = 24 + 5 ∨ μ0 25 w = 24 + 7 ∨ μ0 25 w = 24 + 9 := hmS.1 w (by omega) (by omega)
      refine jv_callV1 rfl rfl rfl (jz_matH7 hmD (m := w) (by omega) (by omega)).1 ⟨(jz_matH7 hmD (m := w) (by omega) (by omega)).2.2.1, rfl⟩ (Nat.le_of_ble_eq_true rfl) (cl_matTake (jz_matH7 hmD (m := w) (by omega) (by omega)) (jz_matH24 hmS (m := w) (by omega) (by omega)) (by omega) (by omega) (fun μ29 fμ29 aμ29 bμ29 => ?_))
      show jV _ _ jm_p_X4_takeOver _ 30 [some (.inr (.inr 7)), some (.inr (.inr 24)), some (.inl w)] [] μ29
      refine jv_iinc (fun x => [some (.inr (.inr 7)), some (.inr (.inr 24)), some (.inl x)]) rfl rfl rfl ⟨by omega, by omega⟩ (fun _ => rfl) (fun x2_30 ex2_30 => ?_)
      refine jv_goto rfl rfl ?_
      refine ih x2_30 μ29 (by omega) (by omega) (by omega) ?_
      rw [ex2_30]
      exact jhp_mat (by decide) hmD hmS (by omega) hP fμ29 aμ29 bμ29
set_option maxRecDepth 10000 in
theorem cl_take7_24 {X : jm_X} {d : Nat} {Q : jv_P} {μ : jm_M}  (hmD : jh_mats μ 7) (hmS : jh_mats μ 24) (k : ∀ μ2, jhp 7 24 μ μ2 4 6 → Q [] μ2) : cV X (d + 2) 39 [.inr (.inr 7), .inr (.inr 24)] μ Q := by
  refine jv_enter (d := d + 1) jm_p_X4_takeOver [some (.inr (.inr 7)), some (.inr (.inr 24)), none] rfl rfl rfl (Nat.le_of_ble_eq_true rfl) rfl rfl ?_
  refine jv_aload_n rfl rfl rfl (by decide) ?_
  refine jv_aload_n rfl rfl rfl (by decide) ?_
  refine jv_geti rfl rfl rfl ⟨by decide, rfl⟩ (by decide) ?_
  refine jv_puti rfl rfl rfl ⟨by decide, rfl⟩ (Or.inl rfl) (fun μ3 eμ3 => ?_)
  refine jv_aload_n rfl rfl rfl (by decide) ?_
  refine jv_aload_n rfl rfl rfl (by decide) ?_
  refine jv_geti rfl rfl rfl ⟨by decide, rfl⟩ (by decide) ?_
  refine jv_puti rfl rfl rfl ⟨by decide, rfl⟩ (Or.inl rfl) (fun μ7 eμ7 => ?_)
  refine jv_aload_n rfl rfl rfl (by decide) ?_
  refine jv_aload_n rfl rfl rfl (by decide) ?_
  refine jv_geti rfl rfl rfl ⟨by decide, rfl⟩ (by decide) ?_
  refine jv_puti rfl rfl rfl ⟨by decide, rfl⟩ (Or.inl rfl) (fun μ11 eμ11 => ?_)
  refine jv_aload_n rfl rfl rfl (by decide) ?_
  refine jv_aload_n rfl rfl rfl (by decide) ?_
  refine jv_geti rfl rfl rfl ⟨by decide, rfl⟩ (by decide) ?_
  refine jv_puti rfl rfl rfl ⟨by decide, rfl⟩ (Or.inl rfl) (fun μ15 eμ15 => ?_)
  refine jv_iconst rfl rfl ?_
  refine jv_istore_nK (L2 := [some (.inr (.inr 7)), some (.inr (.inr 24)), some (.inl 0)]) rfl rfl rfl ?_
  have z1 : ∀ u, u ≠ 7 → μ15 u = μ u := fun u q => by rw [eμ15, jm_uc_ne q, eμ11, jm_uc_ne q, eμ7, jm_uc_ne q, eμ3, jm_uc_ne q]
  have z2 : ∀ u, u ≠ 7 → μ11 u = μ u := fun u q => by rw [eμ11, jm_uc_ne q, eμ7, jm_uc_ne q, eμ3, jm_uc_ne q]
  have z3 : ∀ u, u ≠ 7 → μ7 u = μ u := fun u q => by rw [eμ7, jm_uc_ne q, eμ3, jm_uc_ne q]
  have z4 : ∀ u, u ≠ 7 → μ3 u = μ u := fun u q => by rw [eμ3, jm_uc_ne q]
  have z5 : μ15 7 = jm_u1 (jm_u1 (jm_u1 (jm_u1 (μ 7) 0 (μ 24 0)) 1 (μ 24 1)) 2 (μ 24 2)) 3 (μ 24 3) := by rw [eμ15, jm_uc_self, z2 24 (by decide), eμ11, jm_uc_self, z3 24 (by decide), eμ7, jm_uc_self, z4 24 (by decide), eμ3, jm_uc_self]
  have hP : jhp 7 24 μ μ15 0 0 := ⟨fun z q => z1 z (by omega), by rw [z5]; exact ⟨rfl, rfl, rfl, rfl⟩, fun m m0 m1 => by exfalso; omega, fun c c0 c1 => by exfalso; omega⟩
  exact cl_take7_24_m hmD hmS k 5 0 μ15 (by omega) (by omega) (by omega) hP
