set_option maxRecDepth 10000 in
theorem cl_comTake {X : jm_X} {d : Nat} {Q : jv_P} {μ : jm_M} {z y : Int} (hz : jz_com z) (hy : jz_com y) (hne : y ≠ z) (k : ∀ μ2 : jm_M, (∀ u, u ≠ z → μ2 u = μ u) → (∀ j, 0 ≤ j → j < 5 → μ2 z j = μ y j) → Q [] μ2) : cV X (d + 1) 7 [.inr (.inr z), .inr (.inr y)] μ Q := by
  refine jv_enter (d := d + 0) jm_p_X1_takeOver [some (.inr (.inr z)), some (.inr (.inr y))] rfl rfl rfl (Nat.le_of_ble_eq_true rfl) rfl rfl ?_
  refine jv_aload_n rfl rfl rfl (by have := hz.2; omega) ?_
  refine jv_aload_n rfl rfl rfl (by have := hy.2; omega) ?_
  refine jv_geti rfl rfl hy.1 ⟨hy.2.1, rfl⟩ (by decide) ?_
  refine jv_puti rfl rfl hz.1 ⟨hz.2.1, rfl⟩ (Or.inl rfl) (fun μ3 eμ3 => ?_)
  refine jv_aload_n rfl rfl rfl (by have := hz.2; omega) ?_
  refine jv_aload_n rfl rfl rfl (by have := hy.2; omega) ?_
  refine jv_geti rfl rfl hy.1 ⟨hy.2.1, rfl⟩ (by decide) ?_
  refine jv_puti rfl rfl hz.1 ⟨hz.2.1, rfl⟩ (Or.inl rfl) (fun μ7 eμ7 => ?_)
  refine jv_aload_n rfl rfl rfl (by have := hz.2; omega) ?_
  refine jv_aload_n rfl rfl rfl (by have := hy.2; omega) ?_
  refine jv_geti rfl rfl hy.1 ⟨hy.2.1, rfl⟩ (by decide) ?_
  refine jv_puti rfl rfl hz.1 ⟨hz.2.1, rfl⟩ (Or.inl rfl) (fun μ11 eμ11 => ?_)
  refine jv_aload_n rfl rfl rfl (by have := hz.2; omega) ?_
  refine jv_aload_n rfl rfl rfl (by have := hy.2; omega) ?_
  refine jv_geti rfl rfl hy.1 ⟨hy.2.1, rfl⟩ (by decide) ?_
  refine jv_puti rfl rfl hz.1 ⟨hz.2.1, rfl⟩ (Or.inl rfl) (fun μ15 eμ15 => ?_)
  refine jv_aload_n rfl rfl rfl (by have := hz.2; omega) ?_
  refine jv_aload_n rfl rfl rfl (by have := hy.2; omega) ?_
  refine jv_geti rfl rfl hy.1 ⟨hy.2.1, rfl⟩ (by decide) ?_
  refine jv_puti rfl rfl hz.1 ⟨hz.2.1, rfl⟩ (Or.inl rfl) (fun μ19 eμ19 => ?_)
  refine jv_return rfl ?_
  have a0 : ∀ u, u ≠ z → μ3 u = μ u := fun u q => by rw [eμ3, jm_uc_ne q]
  have a1 : ∀ u, u ≠ z → μ7 u = μ u := fun u q => by rw [eμ7, jm_uc_ne q, a0 u q]
  have a2 : ∀ u, u ≠ z → μ11 u = μ u := fun u q => by rw [eμ11, jm_uc_ne q, a1 u q]
  have a3 : ∀ u, u ≠ z → μ15 u = μ u := fun u q => by rw [eμ15, jm_uc_ne q, a2 u q]
  have a4 : ∀ u, u ≠ z → μ19 u = μ u := fun u q => by rw [eμ19, jm_uc_ne q, a3 u q]
  have b : μ19 z = jm_u1 (jm_u1 (jm_u1 (jm_u1 (jm_u1 (μ z) 0 (μ y 0)) 1 (μ y 1)) 2 (μ y 2)) 3 (μ y 3)) 4 (μ y 4) := by rw [eμ19, jm_uc_self, a3 y hne, eμ15, jm_uc_self, a2 y hne, eμ11, jm_uc_self, a1 y hne, eμ7, jm_uc_self, a0 y hne, eμ3, jm_uc_self]
  refine k _ a4 (fun j j0 j1 => ?_)
  rw [b]
  rcases (show j = 0 ∨ j = 1 ∨ j = 2 ∨ j = 3 ∨ j = 4 by omega) with q | q | q | q | q <;> rw [q] <;> rfl
set_option maxRecDepth 10000 in
theorem cl_tryAs {X : jm_X} {d : Nat} {Q : jv_P} {μ : jm_M} {c : Int} (hc : 0 ≤ c ∧ c < 6) (k : ∀ μ2 : jm_M, (∀ u, u ≠ 54 → μ2 u = μ u) → (∀ j, 0 ≤ j → j < 5 → μ2 54 j = μ (18 + c) j) → Q [] μ2) : cV X (d + 2) 23 [.inr (.inr 49), .inr (.inr (18 + c))] μ Q := by
  refine jv_enter (d := d + 1) jm_p_X2_tryAs [some (.inr (.inr 49)), some (.inr (.inr (18 + c)))] rfl rfl rfl (Nat.le_of_ble_eq_true rfl) rfl rfl ?_
  refine jv_aload_n rfl rfl rfl (by decide) ?_
  refine jv_getr (w := 54) rfl rfl rfl ⟨by decide, rfl⟩ rfl rfl ?_
  refine jv_aload_n rfl rfl rfl (by omega) ?_
  refine jv_callV1 rfl rfl rfl rfl ⟨by decide, rfl⟩ (Nat.le_of_ble_eq_true rfl) (cl_comTake (jz_com_of (by decide)) (jz_com7 hc.1 hc.2) (by omega) (fun μ3 fμ3 gμ3 => ?_))
  show jV _ _ jm_p_X2_tryAs _ 4 [some (.inr (.inr 49)), some (.inr (.inr (18 + c)))] [] μ3
  refine jv_return rfl ?_
  exact k _ fμ3 gμ3
set_option maxRecDepth 10000 in
theorem cl_giveTrait {X : jm_X} {d : Nat} {Q : jv_P} {μ : jm_M} {q v : Int} (hq : 0 ≤ q ∧ q ≤ 3) (k : ∀ sl μ2, ((q = 0 ∧ sl = 0) ∨ (q = 1 ∧ sl = 1) ∨ (q = 2 ∧ sl = 3) ∨ (q = 3 ∧ sl = 2)) → μ2 = jm_uc μ 54 (jm_u1 (μ 54) sl v) → Q [] μ2) : cV X (d + 1) 25 [.inr (.inr 49), .inl q, .inl v] μ Q := by
  refine jv_enter (d := d + 0) jm_p_X2_giveTrait [some (.inr (.inr 49)), some (.inl q), some (.inl v)] rfl rfl rfl (Nat.le_of_ble_eq_true rfl) rfl rfl ?_
  refine jv_iload_n rfl rfl rfl ?_
  refine jv_tsw rfl (And.intro (fun s1 => ?_) (fun ns1_2 => (And.intro (fun s1 => ?_) (fun ns1_1 => (And.intro (fun s1 => ?_) (fun ns1 => (jm_sw_1 ?_)))))))
  · refine jv_aload_n rfl rfl rfl (by decide) ?_
    refine jv_getr (w := 54) rfl rfl rfl ⟨by decide, rfl⟩ rfl rfl ?_
    refine jv_iload_n rfl rfl rfl ?_
    refine jv_puti rfl rfl rfl ⟨by decide, rfl⟩ (Or.inl rfl) (fun μ5 eμ5 => ?_)
    refine jv_goto rfl rfl ?_
    refine jv_return rfl ?_
    exact k 0 _ (by omega) eμ5
  · refine jv_aload_n rfl rfl rfl (by decide) ?_
    refine jv_getr (w := 54) rfl rfl rfl ⟨by decide, rfl⟩ rfl rfl ?_
    refine jv_iload_n rfl rfl rfl ?_
    refine jv_puti rfl rfl rfl ⟨by decide, rfl⟩ (Or.inl rfl) (fun μ10 eμ10 => ?_)
    refine jv_goto rfl rfl ?_
    refine jv_return rfl ?_
    exact k 1 _ (by omega) eμ10
  · refine jv_aload_n rfl rfl rfl (by decide) ?_
    refine jv_getr (w := 54) rfl rfl rfl ⟨by decide, rfl⟩ rfl rfl ?_
    refine jv_iload_n rfl rfl rfl ?_
    refine jv_puti rfl rfl rfl ⟨by decide, rfl⟩ (Or.inl rfl) (fun μ15 eμ15 => ?_)
    refine jv_goto rfl rfl ?_
    refine jv_return rfl ?_
    exact k 3 _ (by omega) eμ15
  · show jV _ _ jm_p_X2_giveTrait _ 17 [some (.inr (.inr 49)), some (.inl q), some (.inl v)] [] μ
    refine jv_aload_n rfl rfl rfl (by decide) ?_
    refine jv_getr (w := 54) rfl rfl rfl ⟨by decide, rfl⟩ rfl rfl ?_
    refine jv_iload_n rfl rfl rfl ?_
    refine jv_puti rfl rfl rfl ⟨by decide, rfl⟩ (Or.inl rfl) (fun μ20 eμ20 => ?_)
    refine jv_return rfl ?_
    exact k 2 _ (by omega) eμ20
theorem jt_wf_trait {t : Int → Int} {q pl lo hi c v : Int} (hw : jt_wf t) (hc : 0 ≤ c ∧ c < 6) (hq : (q = 0 ∧ pl = 32 ∧ lo = 1 ∧ hi = 5) ∨ (q = 1 ∧ pl = 38 ∧ lo = 0 ∧ hi = 29) ∨ (q = 2 ∧ pl = 50 ∧ lo = 1 ∧ hi = 9) ∨ (q = 3 ∧ pl = 44 ∧ lo = 0 ∧ hi = 5)) (hv : lo ≤ v ∧ v ≤ hi) : jt_wf (jm_u1 t (pl + c) v) := by
  have o : ∀ j, j < 32 → jm_u1 t (pl + c) v j = t j := fun j h => by
    unfold jm_u1
    rw [if_neg (by omega)]
  obtain ⟨w0, w1, w2, w3, w4, w6, w7, w8⟩ := hw
  refine ⟨by rw [o 0 (by omega)]; exact w0, by rw [o 1 (by omega)]; exact w1, by rw [o 2 (by omega)]; exact w2, by rw [o 3 (by omega)]; exact w3, fun m m0 m1 => by rw [o _ (by omega)]; exact w4 m m0 m1, fun j j0 j1 => by rw [o _ (by omega)]; exact w6 j j0 j1, fun m m0 m1 => ?_, fun x x0 x1 => ?_⟩
  · have h := w7 m m0 m1
    unfold jt_lies at h ⊢
    rw [o _ (by omega), o _ (by omega), o _ (by omega), o _ (by omega), o _ (by omega), o _ (by omega), o _ (by omega)]
    exact h
  · have h := w8 x x0 x1
    simp only [jm_u1]
    refine ⟨?_, ?_, ?_, ?_⟩ <;> split <;> omega
theorem jt_cf_trait {t : Int → Int} {q pl lo hi c v K : Int} (hw : jt_cf t K) (hc : 0 ≤ c ∧ c < 6) (hq : (q = 0 ∧ pl = 32 ∧ lo = 1 ∧ hi = 5) ∨ (q = 1 ∧ pl = 38 ∧ lo = 0 ∧ hi = 29) ∨ (q = 2 ∧ pl = 50 ∧ lo = 1 ∧ hi = 9) ∨ (q = 3 ∧ pl = 44 ∧ lo = 0 ∧ hi = 5)) : jt_cf (jm_u1 t (pl + c) v) K := fun x x0 x1 => by
  simp only [jm_u1]
  rw [if_neg (by omega)]
  exact hw x x0 x1
/-- the suspect has c's traits but for the one that is tried -/
def jfs (t : Int → Int) (c q : Int) (μ0 μ : jm_M) : Prop := jf μ0 μ ∧ (q ≠ 0 → μ 54 0 = t (32 + c)) ∧ (q ≠ 1 → μ 54 1 = t (38 + c)) ∧ (q ≠ 3 → μ 54 2 = t (44 + c)) ∧ (q ≠ 2 → μ 54 3 = t (50 + c))
theorem jz_54 : jz_com 54 := jz_com_of (by decide)
set_option maxRecDepth 10000 in
set_option maxHeartbeats 1000000 in
theorem cl_fitting_l {X : jm_X} {d : Nat} {Q : jv_P} {t g g2 g3 : Int → Int} {q pl lo hi c r a : Int} {μ0 : jm_M} (hH0 : jH μ0 t) (hc : 0 ≤ c ∧ c < t 1) (hq : (q = 0 ∧ pl = 32 ∧ lo = 1 ∧ hi = 5) ∨ (q = 1 ∧ pl = 38 ∧ lo = 0 ∧ hi = 29) ∨ (q = 2 ∧ pl = 50 ∧ lo = 1 ∧ hi = 9) ∨ (q = 3 ∧ pl = 44 ∧ lo = 0 ∧ hi = 5)) (hx2 : X 2 = (4, g2)) (hx3 : X 3 = (4, g3)) (hg2 : g2 q = lo) (hg3 : g3 q = hi) (hr : 0 ≤ r ∧ r < 8) (ha : 0 ≤ a ∧ a + t 0 ≤ 40) (hg : ∀ j, 0 ≤ j → j < 40 → μ0 2 (40 * r + j) = g j) (k : ∀ s μ2, jb_is (fun v => jb_so (jm_u1 t (pl + c) v) c g a (t 0)) lo (hi + 1 - lo).toNat s → jf μ0 μ2 → Q [.inl s] μ2) : ∀ (n : Nat) (s w : Int) (μ : jm_M), lo ≤ w → w ≤ (hi + 1) → (hi + 1) - w < n → jb_is (fun v => jb_so (jm_u1 t (pl + c) v) c g a (t 0)) lo (w - lo).toNat s → (jfs t c q) μ0 μ → jV X (d + 3) jm_p_X2_fitting Q 6 [some (.inr (.inr 49)), some (.inr (.inr 7)), some (.inl q), some (.inr (.inr 1)), some (.inl r), some (.inl a), some (.inl s), some (.inl w)] [] μ := by
  intro n
  induction n with
  | zero => intro s w μ y0 y1 yn hs hf; exfalso; omega
  | succ n ih =>
    intro s w μ y0 y1 yn hs hf
    have hHμ := jH_jf hf.1 hH0
    have hk0 := hHμ.2.1 c hc.1 hc.2
    obtain ⟨w0, w1, w2, w3, w4, w6, w7, w8⟩ := id hHμ.1
    obtain ⟨-, s0, s1, s2, s3⟩ := id hf
    refine jv_iload rfl rfl rfl ?_
    refine jv_getstatic rfl rfl ?_
    refine jv_iload_n rfl rfl rfl ?_
    refine jv_xaload rfl rfl ⟨by decide, by decide⟩ hx3 ⟨by omega, by omega⟩ ?_
    refine jv_icmp_gt rfl rfl rfl (fun c10 => ?_) (fun c10 => ?_)
    · refine jv_iload rfl rfl rfl ?_
      refine jv_ireturn rfl (Or.inl rfl) ?_
      have hw : w = hi + 1 := by omega
      rw [hw] at hs
      exact k _ _ hs hf.1
    · refine jv_aload_n rfl rfl rfl (by decide) ?_
      refine jv_iload_n rfl rfl rfl ?_
      refine jv_iload rfl rfl rfl ?_
      refine jv_callV2 rfl rfl rfl rfl ⟨by decide, rfl⟩ (Nat.le_of_ble_eq_true rfl) (cl_giveTrait (by omega) (fun sl μ14 hsl eμ14 => ?_))
      show jV _ _ jm_p_X2_fitting _ 15 [some (.inr (.inr 49)), some (.inr (.inr 7)), some (.inl q), some (.inr (.inr 1)), some (.inl r), some (.inl a), some (.inl s), some (.inl w)] [] μ14
      have gμ14 : ∀ z, z ≠ 54 → μ14 z = μ z := fun z q => by rw [eμ14, jm_off1 q]
      have e54 : ∀ j, μ14 54 j = if j = sl then w else μ 54 j := fun j => by rw [eμ14, jm_uc_self]; rfl
      have hHμ14 := jH_congr (fun z a b => gμ14 z (by omega)) hHμ
      refine jv_aload_n rfl rfl rfl (by decide) ?_
      refine jv_aload_n rfl rfl rfl (by decide) ?_
      refine jv_aload_n rfl rfl rfl (by decide) ?_
      refine jv_getr (w := 54) rfl rfl rfl ⟨by decide, rfl⟩ rfl rfl ?_
      refine jv_aload_n rfl rfl rfl (by decide) ?_
      refine jv_iload rfl rfl rfl ?_
      refine jv_iload rfl rfl rfl ?_
      refine jv_callV5 rfl rfl rfl rfl ⟨by decide, rfl⟩ (Nat.le_of_ble_eq_true rfl) (cl_isSo (z := 54) (c := c) (T := jm_u1 t (pl + c) w) (g := g) jz_54 (Or.inl rfl) hHμ14 (jt_wf_trait hHμ.1 ⟨hc.1, by omega⟩ hq ⟨by omega, by omega⟩) (by simp only [jm_u1]; rw [if_neg (by omega)]) (by simp only [jm_u1]; rw [if_neg (by omega)]) (fun j j0 j1 => by simp only [jm_u1]; rw [if_neg (by omega)]) ⟨hc.1, by omega⟩ (by simp only [jm_u1]; split <;> omega) (by rw [e54]; simp only [jm_u1]; (repeat' split) <;> omega) (by rw [e54]; simp only [jm_u1]; (repeat' split) <;> omega) (by rw [e54]; simp only [jm_u1]; (repeat' split) <;> omega) (by rw [e54]; simp only [jm_u1]; (repeat' split) <;> omega) hr ha (fun j j0 j1 => by rw [gμ14 2 (by decide), hf.1 2 (by omega)]; exact hg j j0 j1) (fun μ22 bμ22 fμ22 => ?_) (fun μ22 bμ22 fμ22 => ?_))
      · show jV _ _ jm_p_X2_fitting _ 23 [some (.inr (.inr 49)), some (.inr (.inr 7)), some (.inl q), some (.inr (.inr 1)), some (.inl r), some (.inl a), some (.inl s), some (.inl w)] [.inl 1] μ22
        refine jv_if_eqF rfl rfl (by decide) ?_
        refine jv_iload rfl rfl rfl ?_
        refine jv_iconst rfl rfl ?_
        refine jv_iload rfl rfl rfl ?_
        refine jv_ishl rfl rfl ?_
        refine jv_ior rfl rfl ?_
        refine jv_istore (fun x => [some (.inr (.inr 49)), some (.inr (.inr 7)), some (.inl q), some (.inr (.inr 1)), some (.inl r), some (.inl a), some (.inl x), some (.inl w)]) rfl rfl (fun _ => rfl) (fun x6_29 ex6_29 => ?_)
        refine jv_iinc (fun x => [some (.inr (.inr 49)), some (.inr (.inr 7)), some (.inl q), some (.inr (.inr 1)), some (.inl r), some (.inl a), some (.inl x6_29), some (.inl x)]) rfl rfl rfl ⟨by omega, by omega⟩ (fun _ => rfl) (fun x7_30 ex7_30 => ?_)
        refine jv_goto rfl rfl ?_
        refine ih x6_29 x7_30 μ22 (by omega) (by omega) (by omega) ?_ ?_
        · rw [ex7_30, show (w + 1 - lo).toNat = (w - lo).toNat + 1 by omega]
          refine ⟨s, hs, ?_⟩
          rw [show lo + (((w - lo).toNat : Nat) : Int) = w by omega]
          first
          | exact Or.inl ⟨by exact bμ22, ex6_29⟩
          | exact Or.inr ⟨by exact bμ22, by rw [ex6_29]; exact jm_or_0 (jb_is_r _ _ hs)⟩
        · exact ⟨fun z q => by rw [fμ22 z (by omega), gμ14 z (by omega), hf.1 z q], fun q => by rw [fμ22 54 (by omega), e54, if_neg (by omega)]; exact s0 q, fun q => by rw [fμ22 54 (by omega), e54, if_neg (by omega)]; exact s1 q, fun q => by rw [fμ22 54 (by omega), e54, if_neg (by omega)]; exact s2 q, fun q => by rw [fμ22 54 (by omega), e54, if_neg (by omega)]; exact s3 q⟩
      · show jV _ _ jm_p_X2_fitting _ 23 [some (.inr (.inr 49)), some (.inr (.inr 7)), some (.inl q), some (.inr (.inr 1)), some (.inl r), some (.inl a), some (.inl s), some (.inl w)] [.inl 0] μ22
        refine jv_if_eqT rfl rfl (by decide) ?_
        refine jv_iinc (fun x => [some (.inr (.inr 49)), some (.inr (.inr 7)), some (.inl q), some (.inr (.inr 1)), some (.inl r), some (.inl a), some (.inl s), some (.inl x)]) rfl rfl rfl ⟨by omega, by omega⟩ (fun _ => rfl) (fun x7_30_1 ex7_30_1 => ?_)
        refine jv_goto rfl rfl ?_
        refine ih s x7_30_1 μ22 (by omega) (by omega) (by omega) ?_ ?_
        · rw [ex7_30_1, show (w + 1 - lo).toNat = (w - lo).toNat + 1 by omega]
          refine ⟨s, hs, ?_⟩
          rw [show lo + (((w - lo).toNat : Nat) : Int) = w by omega]
          first
          | exact Or.inl ⟨by exact bμ22, rfl⟩
          | exact Or.inr ⟨by exact bμ22, rfl⟩
        · exact ⟨fun z q => by rw [fμ22 z (by omega), gμ14 z (by omega), hf.1 z q], fun q => by rw [fμ22 54 (by omega), e54, if_neg (by omega)]; exact s0 q, fun q => by rw [fμ22 54 (by omega), e54, if_neg (by omega)]; exact s1 q, fun q => by rw [fμ22 54 (by omega), e54, if_neg (by omega)]; exact s2 q, fun q => by rw [fμ22 54 (by omega), e54, if_neg (by omega)]; exact s3 q⟩
set_option maxRecDepth 10000 in
theorem cl_fitting {X : jm_X} {d : Nat} {Q : jv_P} {μ : jm_M} {t g g2 g3 : Int → Int} {q pl lo hi c r a : Int} (hH0 : jH μ t) (hc : 0 ≤ c ∧ c < t 1) (hq : (q = 0 ∧ pl = 32 ∧ lo = 1 ∧ hi = 5) ∨ (q = 1 ∧ pl = 38 ∧ lo = 0 ∧ hi = 29) ∨ (q = 2 ∧ pl = 50 ∧ lo = 1 ∧ hi = 9) ∨ (q = 3 ∧ pl = 44 ∧ lo = 0 ∧ hi = 5)) (hx2 : X 2 = (4, g2)) (hx3 : X 3 = (4, g3)) (hg2 : g2 q = lo) (hg3 : g3 q = hi) (hr : 0 ≤ r ∧ r < 8) (ha : 0 ≤ a ∧ a + t 0 ≤ 40) (hg : ∀ j, 0 ≤ j → j < 40 → μ 2 (40 * r + j) = g j) (hs0 : jfs t c q μ μ) (k : ∀ s μ2, jb_is (fun v => jb_so (jm_u1 t (pl + c) v) c g a (t 0)) lo (hi + 1 - lo).toNat s → jf μ μ2 → Q [.inl s] μ2) : cV X (d + 4) 24 [.inr (.inr 49), .inr (.inr 7), .inl q, .inr (.inr 1), .inl r, .inl a] μ Q := by
  refine jv_enter (d := d + 3) jm_p_X2_fitting [some (.inr (.inr 49)), some (.inr (.inr 7)), some (.inl q), some (.inr (.inr 1)), some (.inl r), some (.inl a), none, none] rfl rfl rfl (Nat.le_of_ble_eq_true rfl) rfl rfl ?_
  refine jv_iconst rfl rfl ?_
  refine jv_istoreK (L2 := [some (.inr (.inr 49)), some (.inr (.inr 7)), some (.inl q), some (.inr (.inr 1)), some (.inl r), some (.inl a), some (.inl 0), none]) rfl rfl rfl ?_
  refine jv_getstatic rfl rfl ?_
  refine jv_iload_n rfl rfl rfl ?_
  refine jv_xaload rfl rfl ⟨by decide, by decide⟩ hx2 ⟨by omega, by omega⟩ ?_
  refine jv_istore (fun x => [some (.inr (.inr 49)), some (.inr (.inr 7)), some (.inl q), some (.inr (.inr 1)), some (.inl r), some (.inl a), some (.inl 0), some (.inl x)]) rfl rfl (fun _ => rfl) (fun x7_5 ex7_5 => ?_)
  have e7 : x7_5 = lo := by omega
  rw [e7]
  exact cl_fitting_l hH0 hc hq hx2 hx3 hg2 hg3 hr ha hg k 60 0 lo μ (by omega) (by omega) (by omega) (by rw [Int.sub_self]; rfl) hs0
set_option maxRecDepth 10000 in
theorem mo_fits_l {X : jm_X} {d : Nat} {Q : jv_P} {t g : Int → Int} {q pl lo hi c r a pc : Int} {μ0 : jm_M} (hU0 : jU μ0 t) (hw : jt_wf t) (hcf : jt_cf t 100000) (hc : 0 ≤ c ∧ c < t 1) (hq : (q = 0 ∧ pl = 32 ∧ lo = 1 ∧ hi = 5) ∨ (q = 1 ∧ pl = 38 ∧ lo = 0 ∧ hi = 29) ∨ (q = 2 ∧ pl = 50 ∧ lo = 1 ∧ hi = 9) ∨ (q = 3 ∧ pl = 44 ∧ lo = 0 ∧ hi = 5)) (hpc : pc = pl + c) (hr : 0 ≤ r ∧ r < 8) (ha : 0 ≤ a ∧ a + t 0 ≤ 40) (hg : ∀ j, 0 ≤ j → j < 40 → μ0 99 (40 * r + j) = g j) (k : ∀ s μ2 μ3, jb_is (fun v => jb_so (jm_u1 t (pl + c) v) c g a (t 0)) lo (hi + 1 - lo).toNat s → jr μ0 μ2 → μ3 = jm_uc μ2 94 (jm_u1 (μ2 94) 10 0) → Q [.inl s] μ3) : ∀ (n : Nat) (s w : Int) (μ : jm_M), lo ≤ w → w ≤ (hi + 1) → (hi + 1) - w < n → jb_is (fun v => jb_so (jm_u1 t (pl + c) v) c g a (t 0)) lo (w - lo).toNat s → jr μ0 μ → jV X (d + 4) jm_p_X10_fits Q 69 [some (.inr (.inr 94)), some (.inl c), some (.inl r), some (.inl a), some (.inl q), some (.inl 0), some (.inl pc), some (.inl lo), some (.inl hi), some (.inl s), some (.inl w)] [] μ := by
  intro n
  induction n with
  | zero => intro s w μ y0 y1 yn hs hf; exfalso; omega
  | succ n ih =>
    intro s w μ y0 y1 yn hs hf
    have hUμ := jU_jr hf hU0
    have u0μ := hUμ 0 (by decide) (by decide)
    have u1μ := hUμ 1 (by decide) (by decide)
    obtain ⟨w0, w1, w2, w3, w4, w6, w7, w8⟩ := id hw
    refine jv_iload rfl rfl rfl ?_
    refine jv_iload rfl rfl rfl ?_
    refine jv_icmp_gt rfl rfl rfl (fun c71 => ?_) (fun c71 => ?_)
    · refine jv_aload_n rfl rfl rfl (by decide) ?_
      refine jv_iload rfl rfl rfl ?_
      refine jv_callV1 rfl rfl rfl rfl ⟨by decide, rfl⟩ (Nat.le_of_ble_eq_true rfl) (mo_well (fun μ99 eμ99 => ?_))
      show jV _ _ jm_p_X10_fits _ 100 [some (.inr (.inr 94)), some (.inl c), some (.inl r), some (.inl a), some (.inl q), some (.inl 0), some (.inl pc), some (.inl lo), some (.inl hi), some (.inl s), some (.inl w)] [.inl s] μ99
      refine jv_ireturn rfl (Or.inl rfl) ?_
      have hw : w = hi + 1 := by omega
      rw [hw] at hs
      exact k _ _ _ hs hf eμ99
    · refine jv_aload_n rfl rfl rfl (by decide) ?_
      refine jv_callV0 rfl rfl rfl rfl ⟨by decide, rfl⟩ (Nat.le_of_ble_eq_true rfl) (mo_layTried hUμ (fun μ73 fμ73 tμ73 => ?_))
      show jV _ _ jm_p_X10_fits _ 74 [some (.inr (.inr 94)), some (.inl c), some (.inl r), some (.inl a), some (.inl q), some (.inl 0), some (.inl pc), some (.inl lo), some (.inl hi), some (.inl s), some (.inl w)] [] μ73
      have hUμ73 := jU_jr fμ73 hUμ
      have u0μ73 := hUμ73 0 (by decide) (by decide)
      have u1μ73 := hUμ73 1 (by decide) (by decide)
      refine jv_aload_n rfl rfl rfl (by decide) ?_
      refine jv_getr (w := 95) rfl rfl rfl ⟨by decide, rfl⟩ rfl rfl ?_
      refine jv_sipush rfl rfl ?_
      refine jv_iload rfl rfl rfl ?_
      refine jv_iadd rfl rfl ⟨by omega, by omega⟩ ?_
      refine jv_iload rfl rfl rfl ?_
      refine jv_iastore rfl rfl rfl (by decide) ⟨by omega, by omega⟩ (fun μ80 eμ80 => ?_)
      refine jv_iload rfl rfl rfl ?_
      refine jv_aload_n rfl rfl rfl (by decide) ?_
      refine jv_iload_n rfl rfl rfl ?_
      refine jv_iload_n rfl rfl rfl ?_
      refine jv_iload_n rfl rfl rfl ?_
      have tT : jT μ80 (jm_u1 t (pl + c) w) := fun j j0 j1 => by
        rw [eμ80, jm_uc_self]
        simp only [jm_u1]
        by_cases hj : j = pl + c
        · rw [if_pos hj, if_pos (by omega)]
        · rw [if_neg hj, if_neg (by omega)]
          exact tμ73 j j0 j1
      have v0 : μ80 95 0 = t 0 := by
        rw [eμ80, jm_uc_self]
        simp only [jm_u1]
        rw [if_neg (by omega)]
        exact u0μ73
      have v99 : μ80 99 = μ73 99 := by rw [eμ80, jm_off1 (by decide)]
      have fμ80 : jr μ73 μ80 := ⟨fun z q => by rw [eμ80, jm_off1 q], fun j q => by rw [eμ80, jm_uc_self]; simp only [jm_u1]; rw [if_neg (by omega)]⟩
      refine jv_callV3 rfl rfl rfl rfl ⟨by decide, rfl⟩ (Nat.le_of_ble_eq_true rfl) (mo_isSo (n0 := t 0) (g := g) hr ha (by omega) v0 tT ⟨hc.1, by omega⟩ (jt_wf_trait hw ⟨hc.1, by omega⟩ hq ⟨by omega, by omega⟩) (jt_cf_trait hcf ⟨hc.1, by omega⟩ hq) (fun j j0 j1 => by rw [v99, fμ73.1 99 (by decide), hf.1 99 (by decide)]; exact hg j j0 j1) (fun μ86 bμ86 fμ86 => ?_) (fun μ86 bμ86 fμ86 => ?_))
      · show jV _ _ jm_p_X10_fits _ 87 [some (.inr (.inr 94)), some (.inl c), some (.inl r), some (.inl a), some (.inl q), some (.inl 0), some (.inl pc), some (.inl lo), some (.inl hi), some (.inl s), some (.inl w)] [.inl 1, .inl s] μ86
        refine jv_if_eqF rfl rfl (by decide) ?_
        refine jv_iconst rfl rfl ?_
        refine jv_iload rfl rfl rfl ?_
        refine jv_ishl rfl rfl ?_
        refine jv_goto rfl rfl ?_
        refine jv_ior rfl rfl ?_
        refine jv_istore (fun x => [some (.inr (.inr 94)), some (.inl c), some (.inl r), some (.inl a), some (.inl q), some (.inl 0), some (.inl pc), some (.inl lo), some (.inl hi), some (.inl x), some (.inl w)]) rfl rfl (fun _ => rfl) (fun x9_94 ex9_94 => ?_)
        refine jv_iinc (fun x => [some (.inr (.inr 94)), some (.inl c), some (.inl r), some (.inl a), some (.inl q), some (.inl 0), some (.inl pc), some (.inl lo), some (.inl hi), some (.inl x9_94), some (.inl x)]) rfl rfl rfl ⟨by omega, by omega⟩ (fun _ => rfl) (fun x10_95 ex10_95 => ?_)
        refine jv_goto rfl rfl ?_
        refine ih x9_94 x10_95 μ86 (by omega) (by omega) (by omega) ?_ ?_
        · rw [ex10_95, show (w + 1 - lo).toNat = (w - lo).toNat + 1 by omega]
          refine ⟨s, hs, ?_⟩
          rw [show lo + (((w - lo).toNat : Nat) : Int) = w by omega]
          first
          | exact Or.inl ⟨by exact bμ86, ex9_94⟩
          | exact Or.inr ⟨by exact bμ86, by rw [ex9_94]; exact jm_or_0 (jb_is_r _ _ hs)⟩
        · exact (jr_tr (jr_tr (jr_tr hf fμ73) fμ80) fμ86)
      · show jV _ _ jm_p_X10_fits _ 87 [some (.inr (.inr 94)), some (.inl c), some (.inl r), some (.inl a), some (.inl q), some (.inl 0), some (.inl pc), some (.inl lo), some (.inl hi), some (.inl s), some (.inl w)] [.inl 0, .inl s] μ86
        refine jv_if_eqT rfl rfl (by decide) ?_
        refine jv_iconst rfl rfl ?_
        refine jv_ior rfl rfl ?_
        refine jv_istore (fun x => [some (.inr (.inr 94)), some (.inl c), some (.inl r), some (.inl a), some (.inl q), some (.inl 0), some (.inl pc), some (.inl lo), some (.inl hi), some (.inl x), some (.inl w)]) rfl rfl (fun _ => rfl) (fun x9_94_1 ex9_94_1 => ?_)
        refine jv_iinc (fun x => [some (.inr (.inr 94)), some (.inl c), some (.inl r), some (.inl a), some (.inl q), some (.inl 0), some (.inl pc), some (.inl lo), some (.inl hi), some (.inl x9_94_1), some (.inl x)]) rfl rfl rfl ⟨by omega, by omega⟩ (fun _ => rfl) (fun x10_95_1 ex10_95_1 => ?_)
        refine jv_goto rfl rfl ?_
        refine ih x9_94_1 x10_95_1 μ86 (by omega) (by omega) (by omega) ?_ ?_
        · rw [ex10_95_1, show (w + 1 - lo).toNat = (w - lo).toNat + 1 by omega]
          refine ⟨s, hs, ?_⟩
          rw [show lo + (((w - lo).toNat : Nat) : Int) = w by omega]
          first
          | exact Or.inl ⟨by exact bμ86, ex9_94_1⟩
          | exact Or.inr ⟨by exact bμ86, by rw [ex9_94_1]; exact jm_or_0 (jb_is_r _ _ hs)⟩
        · exact (jr_tr (jr_tr (jr_tr hf fμ73) fμ80) fμ86)
theorem jq_ex {q : Int} (q0 : 0 ≤ q) (q3 : q ≤ 3) : ∃ pl lo hi : Int, (q = 0 ∧ pl = 32 ∧ lo = 1 ∧ hi = 5) ∨ (q = 1 ∧ pl = 38 ∧ lo = 0 ∧ hi = 29) ∨ (q = 2 ∧ pl = 50 ∧ lo = 1 ∧ hi = 9) ∨ (q = 3 ∧ pl = 44 ∧ lo = 0 ∧ hi = 5) := by
  rcases (show q = 0 ∨ q = 1 ∨ q = 2 ∨ q = 3 by omega) with e | e | e | e
  · exact ⟨32, 1, 5, by omega⟩
  · exact ⟨38, 0, 29, by omega⟩
  · exact ⟨50, 1, 9, by omega⟩
  · exact ⟨44, 0, 5, by omega⟩
set_option maxRecDepth 10000 in
set_option maxHeartbeats 1000000 in
theorem pr_fits {len : Nat} {sc : Int → Int} {c : Int} {r : Int} {a : Int} {q : Int} (r_c : jm_r c) (r_r : jm_r r) (r_a : jm_r a) (r_q : jm_r q) : jp (jm_xt len sc) 113 201 [.inl c, .inl r, .inl a, .inl q] := by
  intro μ hI
  obtain ⟨⟨hit, hlan⟩, ⟨ht0, ht1, ht2⟩, ⟨hr0, hr1, hr2⟩, ⟨hst, hfa⟩, htown, hidle, himg, hpast⟩ := id hI
  obtain ⟨hwf, hcf, hkd, hmat, hrel, hh01, hhot, hnc⟩ := id htown
  obtain ⟨⟨r0, r1, r2, r3⟩, rm, rz, rc⟩ := id hrel
  obtain ⟨w0, w1, w2, w3, w4, w6, w7, w8⟩ := id hwf
  have hcf5 : jt_cf (μ 95) 100000 := fun c a b => by have q := hcf c a b; omega
  have hHμ := jH_of hI
  have hl8 := hlan r
  refine jv_enter (d := 199) jm_p_X9_fits [some (.inr (.inr 0)), some (.inl c), some (.inl r), some (.inl a), some (.inl q), none] rfl rfl rfl (Nat.le_of_ble_eq_true rfl) rfl rfl ?_
  refine jv_aload_n rfl rfl rfl (by decide) ?_
  refine jv_iload_n rfl rfl rfl ?_
  refine jv_callV1 rfl rfl rfl rfl ⟨by decide, rfl⟩ (Nat.le_of_ble_eq_true rfl) (cl_noComer (fun b2 => ?_) (fun b2 => ?_))
  · show jV _ _ jm_p_X9_fits _ 3 [some (.inr (.inr 0)), some (.inl c), some (.inl r), some (.inl a), some (.inl q), none] [.inl 1] μ
    refine jv_if_neT rfl rfl (by decide) ?_
    refine jv_ldc rfl rfl ?_
    refine jv_ireturn rfl (Or.inl rfl) ?_
    refine ⟨_, rfl, ?_⟩
    have fc : jf μ μ := jf_id μ
    have hUμ : jU μ (μ 95) := jU_jf fc
    have q94μ : μ 94 1 = μ 94 1 := by rw [fc 94 (by omega)]
    refine jv_enter (d := 199) jm_p_X10_fits [some (.inr (.inr 94)), some (.inl c), some (.inl r), some (.inl a), some (.inl q), none, none, none, none, none, none] rfl rfl rfl (Nat.le_of_ble_eq_true rfl) rfl rfl ?_
    refine jv_aload_n rfl rfl rfl (by decide) ?_
    refine jv_iload_n rfl rfl rfl ?_
    refine jv_callV1 rfl rfl rfl rfl ⟨by decide, rfl⟩ (Nat.le_of_ble_eq_true rfl) (mo_isComer (by omega) (fun b2 => ?_) (fun b2 => ?_))
    · first
      | (exfalso; omega)
      | skip
        show jV _ _ jm_p_X10_fits _ 3 [some (.inr (.inr 94)), some (.inl c), some (.inl r), some (.inl a), some (.inl q), none, none, none, none, none, none] [.inl 1] μ
        refine jv_if_eqF rfl rfl (by decide) ?_
        refine jv_iload_n rfl rfl rfl ?_
        refine jv_callS1 rfl rfl rfl (Nat.le_of_ble_eq_true rfl) (mo_isRow (fun b5 => ?_) (fun b5 => ?_))
        · first
          | (exfalso; omega)
          | skip
            show jV _ _ jm_p_X10_fits _ 6 [some (.inr (.inr 94)), some (.inl c), some (.inl r), some (.inl a), some (.inl q), none, none, none, none, none, none] [.inl 1] μ
            refine jv_if_eqF rfl rfl (by decide) ?_
            refine jv_iload rfl rfl rfl ?_
            refine jv_i2l rfl rfl ?_
            refine jv_lconst rfl rfl ?_
            refine jv_ldc2_w rfl rfl ?_
            refine jv_callS3 rfl rfl rfl (Nat.le_of_ble_eq_true rfl) (mo_in (fun b11 => ?_) (fun b11 => ?_))
            · first
              | (exfalso; omega)
              | skip
                show jV _ _ jm_p_X10_fits _ 12 [some (.inr (.inr 94)), some (.inl c), some (.inl r), some (.inl a), some (.inl q), none, none, none, none, none, none] [.inl 1] μ
                refine jv_if_neT rfl rfl (by decide) ?_
                refine jv_aload_n rfl rfl rfl (by decide) ?_
                refine jv_iload_n rfl rfl rfl ?_
                refine jv_iload_n rfl rfl rfl ?_
                refine jv_callV2 rfl rfl rfl rfl ⟨by decide, rfl⟩ (Nat.le_of_ble_eq_true rfl) (mo_noItems (by omega) (by omega) (by omega) (by omega) (fun h18_0 ν18 eν18 => ?_) (fun h18_0 h18_1 => ?_) (fun h18_0 h18_1 ν18_1 eν18_1 => ?_))
                · first
                  | (exfalso; omega)
                  | skip
                    show jV _ _ jm_p_X10_fits _ 19 [some (.inr (.inr 94)), some (.inl c), some (.inl r), some (.inl a), some (.inl q), none, none, none, none, none, none] [.inl (-1000011)] ν18
                    refine jv_istoreK (L2 := [some (.inr (.inr 94)), some (.inl c), some (.inl r), some (.inl a), some (.inl q), some (.inl (-1000011)), none, none, none, none, none]) rfl rfl rfl ?_
                    refine jv_iload rfl rfl rfl ?_
                    refine jv_if_eqF rfl rfl (by decide) ?_
                    refine jv_iload rfl rfl rfl ?_
                    refine jv_ireturn rfl (Or.inl rfl) ?_
                    exact ⟨jv_one (by omega), by exfalso; omega⟩
                · first
                  | (exfalso; omega)
                  | skip
                    show jV _ _ jm_p_X10_fits _ 19 [some (.inr (.inr 94)), some (.inl c), some (.inl r), some (.inl a), some (.inl q), none, none, none, none, none, none] [.inl 0] μ
                    refine jv_istoreK (L2 := [some (.inr (.inr 94)), some (.inl c), some (.inl r), some (.inl a), some (.inl q), some (.inl 0), none, none, none, none, none]) rfl rfl rfl ?_
                    refine jv_iload rfl rfl rfl ?_
                    refine jv_if_eqT rfl rfl (by decide) ?_
                    refine jv_iload rfl rfl rfl ?_
                    refine jv_if_ne rfl rfl rfl (fun c25 => ?_) (fun c25 => ?_)
                    · first
                      | (exfalso; omega)
                      | skip
                        refine jv_iload rfl rfl rfl ?_
                        refine jv_iconst rfl rfl ?_
                        refine jv_icmp_ne rfl rfl rfl (fun c30 => ?_) (fun c30 => ?_)
                        · first
                          | (exfalso; omega)
                          | skip
                            refine jv_iload rfl rfl rfl ?_
                            refine jv_iconst rfl rfl ?_
                            refine jv_icmp_ne rfl rfl rfl (fun c35 => ?_) (fun c35 => ?_)
                            · first
                              | (exfalso; omega)
                              | skip
                                refine jv_bipush rfl rfl ?_
                                refine jv_iload_n rfl rfl rfl ?_
                                refine jv_iadd rfl rfl ⟨by omega, by omega⟩ ?_
                                refine jv_istore (fun x => [some (.inr (.inr 94)), some (.inl c), some (.inl r), some (.inl a), some (.inl q), some (.inl 0), some (.inl x), none, none, none, none]) rfl rfl (fun _ => rfl) (fun x6_41 ex6_41 => ?_)
                                refine jv_iload rfl rfl rfl ?_
                                refine jv_if_eq rfl rfl rfl (fun c43 => ?_) (fun c43 => ?_)
                                · first
                                  | (exfalso; omega)
                                  | skip
                                    refine jv_iconst rfl rfl ?_
                                    refine jv_goto rfl rfl ?_
                                    refine jv_istoreK (L2 := [some (.inr (.inr 94)), some (.inl c), some (.inl r), some (.inl a), some (.inl q), some (.inl 0), some (.inl x6_41), some (.inl 1), none, none, none]) rfl rfl rfl ?_
                                    refine jv_iload rfl rfl rfl ?_
                                    refine jv_if_eq rfl rfl rfl (fun c52 => ?_) (fun c52 => ?_)
                                    · first
                                      | (exfalso; omega)
                                      | skip
                                        refine jv_iconst rfl rfl ?_
                                        refine jv_goto rfl rfl ?_
                                        refine jv_istoreK (L2 := [some (.inr (.inr 94)), some (.inl c), some (.inl r), some (.inl a), some (.inl q), some (.inl 0), some (.inl x6_41), some (.inl 1), some (.inl 5), none, none]) rfl rfl rfl ?_
                                        refine jv_iconst rfl rfl ?_
                                        refine jv_istoreK (L2 := [some (.inr (.inr 94)), some (.inl c), some (.inl r), some (.inl a), some (.inl q), some (.inl 0), some (.inl x6_41), some (.inl 1), some (.inl 5), some (.inl 0), none]) rfl rfl rfl ?_
                                        refine jv_iload rfl rfl rfl ?_
                                        refine jv_istoreK (L2 := [some (.inr (.inr 94)), some (.inl c), some (.inl r), some (.inl a), some (.inl q), some (.inl 0), some (.inl x6_41), some (.inl 1), some (.inl 5), some (.inl 0), some (.inl 1)]) rfl rfl rfl ?_
                                        exfalso; omega
                                    · first
                                      | (exfalso; omega)
                                      | skip
                                        refine jv_iload rfl rfl rfl ?_
                                        refine jv_iconst rfl rfl ?_
                                        refine jv_icmp_ne rfl rfl rfl (fun c55 => ?_) (fun c55 => ?_)
                                        · first
                                          | (exfalso; omega)
                                          | skip
                                            refine jv_iload rfl rfl rfl ?_
                                            refine jv_iconst rfl rfl ?_
                                            refine jv_icmp_ne rfl rfl rfl (fun c60 => ?_) (fun c60 => ?_)
                                            · first
                                              | (exfalso; omega)
                                              | skip
                                                refine jv_bipush rfl rfl ?_
                                                refine jv_istoreK (L2 := [some (.inr (.inr 94)), some (.inl c), some (.inl r), some (.inl a), some (.inl q), some (.inl 0), some (.inl x6_41), some (.inl 1), some (.inl 9), none, none]) rfl rfl rfl ?_
                                                refine jv_iconst rfl rfl ?_
                                                refine jv_istoreK (L2 := [some (.inr (.inr 94)), some (.inl c), some (.inl r), some (.inl a), some (.inl q), some (.inl 0), some (.inl x6_41), some (.inl 1), some (.inl 9), some (.inl 0), none]) rfl rfl rfl ?_
                                                refine jv_iload rfl rfl rfl ?_
                                                refine jv_istoreK (L2 := [some (.inr (.inr 94)), some (.inl c), some (.inl r), some (.inl a), some (.inl q), some (.inl 0), some (.inl x6_41), some (.inl 1), some (.inl 9), some (.inl 0), some (.inl 1)]) rfl rfl rfl ?_
                                                exfalso; omega
                                            · first
                                              | (exfalso; omega)
                                              | skip
                                                refine jv_bipush rfl rfl ?_
                                                refine jv_goto rfl rfl ?_
                                                refine jv_istoreK (L2 := [some (.inr (.inr 94)), some (.inl c), some (.inl r), some (.inl a), some (.inl q), some (.inl 0), some (.inl x6_41), some (.inl 1), some (.inl 29), none, none]) rfl rfl rfl ?_
                                                refine jv_iconst rfl rfl ?_
                                                refine jv_istoreK (L2 := [some (.inr (.inr 94)), some (.inl c), some (.inl r), some (.inl a), some (.inl q), some (.inl 0), some (.inl x6_41), some (.inl 1), some (.inl 29), some (.inl 0), none]) rfl rfl rfl ?_
                                                refine jv_iload rfl rfl rfl ?_
                                                refine jv_istoreK (L2 := [some (.inr (.inr 94)), some (.inl c), some (.inl r), some (.inl a), some (.inl q), some (.inl 0), some (.inl x6_41), some (.inl 1), some (.inl 29), some (.inl 0), some (.inl 1)]) rfl rfl rfl ?_
                                                exfalso; omega
                                        · first
                                          | (exfalso; omega)
                                          | skip
                                            refine jv_iconst rfl rfl ?_
                                            refine jv_goto rfl rfl ?_
                                            refine jv_istoreK (L2 := [some (.inr (.inr 94)), some (.inl c), some (.inl r), some (.inl a), some (.inl q), some (.inl 0), some (.inl x6_41), some (.inl 1), some (.inl 5), none, none]) rfl rfl rfl ?_
                                            refine jv_iconst rfl rfl ?_
                                            refine jv_istoreK (L2 := [some (.inr (.inr 94)), some (.inl c), some (.inl r), some (.inl a), some (.inl q), some (.inl 0), some (.inl x6_41), some (.inl 1), some (.inl 5), some (.inl 0), none]) rfl rfl rfl ?_
                                            refine jv_iload rfl rfl rfl ?_
                                            refine jv_istoreK (L2 := [some (.inr (.inr 94)), some (.inl c), some (.inl r), some (.inl a), some (.inl q), some (.inl 0), some (.inl x6_41), some (.inl 1), some (.inl 5), some (.inl 0), some (.inl 1)]) rfl rfl rfl ?_
                                            exfalso; omega
                                · first
                                  | (exfalso; omega)
                                  | skip
                                    refine jv_iload rfl rfl rfl ?_
                                    refine jv_iconst rfl rfl ?_
                                    refine jv_icmp_ne rfl rfl rfl (fun c46 => ?_) (fun c46 => ?_)
                                    · first
                                      | (exfalso; omega)
                                      | skip
                                        refine jv_iconst rfl rfl ?_
                                        refine jv_istoreK (L2 := [some (.inr (.inr 94)), some (.inl c), some (.inl r), some (.inl a), some (.inl q), some (.inl 0), some (.inl x6_41), some (.inl 0), none, none, none]) rfl rfl rfl ?_
                                        refine jv_iload rfl rfl rfl ?_
                                        refine jv_if_eq rfl rfl rfl (fun c52_1 => ?_) (fun c52_1 => ?_)
                                        · first
                                          | (exfalso; omega)
                                          | skip
                                            refine jv_iconst rfl rfl ?_
                                            refine jv_goto rfl rfl ?_
                                            refine jv_istoreK (L2 := [some (.inr (.inr 94)), some (.inl c), some (.inl r), some (.inl a), some (.inl q), some (.inl 0), some (.inl x6_41), some (.inl 0), some (.inl 5), none, none]) rfl rfl rfl ?_
                                            refine jv_iconst rfl rfl ?_
                                            refine jv_istoreK (L2 := [some (.inr (.inr 94)), some (.inl c), some (.inl r), some (.inl a), some (.inl q), some (.inl 0), some (.inl x6_41), some (.inl 0), some (.inl 5), some (.inl 0), none]) rfl rfl rfl ?_
                                            refine jv_iload rfl rfl rfl ?_
                                            refine jv_istoreK (L2 := [some (.inr (.inr 94)), some (.inl c), some (.inl r), some (.inl a), some (.inl q), some (.inl 0), some (.inl x6_41), some (.inl 0), some (.inl 5), some (.inl 0), some (.inl 0)]) rfl rfl rfl ?_
                                            exfalso; omega
                                        · first
                                          | (exfalso; omega)
                                          | skip
                                            refine jv_iload rfl rfl rfl ?_
                                            refine jv_iconst rfl rfl ?_
                                            refine jv_icmp_ne rfl rfl rfl (fun c55_1 => ?_) (fun c55_1 => ?_)
                                            · first
                                              | (exfalso; omega)
                                              | skip
                                                refine jv_iload rfl rfl rfl ?_
                                                refine jv_iconst rfl rfl ?_
                                                refine jv_icmp_ne rfl rfl rfl (fun c60_1 => ?_) (fun c60_1 => ?_)
                                                · first
                                                  | (exfalso; omega)
                                                  | skip
                                                    refine jv_bipush rfl rfl ?_
                                                    refine jv_istoreK (L2 := [some (.inr (.inr 94)), some (.inl c), some (.inl r), some (.inl a), some (.inl q), some (.inl 0), some (.inl x6_41), some (.inl 0), some (.inl 9), none, none]) rfl rfl rfl ?_
                                                    refine jv_iconst rfl rfl ?_
                                                    refine jv_istoreK (L2 := [some (.inr (.inr 94)), some (.inl c), some (.inl r), some (.inl a), some (.inl q), some (.inl 0), some (.inl x6_41), some (.inl 0), some (.inl 9), some (.inl 0), none]) rfl rfl rfl ?_
                                                    refine jv_iload rfl rfl rfl ?_
                                                    refine jv_istoreK (L2 := [some (.inr (.inr 94)), some (.inl c), some (.inl r), some (.inl a), some (.inl q), some (.inl 0), some (.inl x6_41), some (.inl 0), some (.inl 9), some (.inl 0), some (.inl 0)]) rfl rfl rfl ?_
                                                    exfalso; omega
                                                · first
                                                  | (exfalso; omega)
                                                  | skip
                                                    refine jv_bipush rfl rfl ?_
                                                    refine jv_goto rfl rfl ?_
                                                    refine jv_istoreK (L2 := [some (.inr (.inr 94)), some (.inl c), some (.inl r), some (.inl a), some (.inl q), some (.inl 0), some (.inl x6_41), some (.inl 0), some (.inl 29), none, none]) rfl rfl rfl ?_
                                                    refine jv_iconst rfl rfl ?_
                                                    refine jv_istoreK (L2 := [some (.inr (.inr 94)), some (.inl c), some (.inl r), some (.inl a), some (.inl q), some (.inl 0), some (.inl x6_41), some (.inl 0), some (.inl 29), some (.inl 0), none]) rfl rfl rfl ?_
                                                    refine jv_iload rfl rfl rfl ?_
                                                    refine jv_istoreK (L2 := [some (.inr (.inr 94)), some (.inl c), some (.inl r), some (.inl a), some (.inl q), some (.inl 0), some (.inl x6_41), some (.inl 0), some (.inl 29), some (.inl 0), some (.inl 0)]) rfl rfl rfl ?_
                                                    exfalso; omega
                                            · first
                                              | (exfalso; omega)
                                              | skip
                                                refine jv_iconst rfl rfl ?_
                                                refine jv_goto rfl rfl ?_
                                                refine jv_istoreK (L2 := [some (.inr (.inr 94)), some (.inl c), some (.inl r), some (.inl a), some (.inl q), some (.inl 0), some (.inl x6_41), some (.inl 0), some (.inl 5), none, none]) rfl rfl rfl ?_
                                                refine jv_iconst rfl rfl ?_
                                                refine jv_istoreK (L2 := [some (.inr (.inr 94)), some (.inl c), some (.inl r), some (.inl a), some (.inl q), some (.inl 0), some (.inl x6_41), some (.inl 0), some (.inl 5), some (.inl 0), none]) rfl rfl rfl ?_
                                                refine jv_iload rfl rfl rfl ?_
                                                refine jv_istoreK (L2 := [some (.inr (.inr 94)), some (.inl c), some (.inl r), some (.inl a), some (.inl q), some (.inl 0), some (.inl x6_41), some (.inl 0), some (.inl 5), some (.inl 0), some (.inl 0)]) rfl rfl rfl ?_
                                                exfalso; omega
                                    · first
                                      | (exfalso; omega)
                                      | skip
                                        refine jv_iconst rfl rfl ?_
                                        refine jv_goto rfl rfl ?_
                                        refine jv_istoreK (L2 := [some (.inr (.inr 94)), some (.inl c), some (.inl r), some (.inl a), some (.inl q), some (.inl 0), some (.inl x6_41), some (.inl 1), none, none, none]) rfl rfl rfl ?_
                                        refine jv_iload rfl rfl rfl ?_
                                        refine jv_if_eq rfl rfl rfl (fun c52_2 => ?_) (fun c52_2 => ?_)
                                        · first
                                          | (exfalso; omega)
                                          | skip
                                            refine jv_iconst rfl rfl ?_
                                            refine jv_goto rfl rfl ?_
                                            refine jv_istoreK (L2 := [some (.inr (.inr 94)), some (.inl c), some (.inl r), some (.inl a), some (.inl q), some (.inl 0), some (.inl x6_41), some (.inl 1), some (.inl 5), none, none]) rfl rfl rfl ?_
                                            refine jv_iconst rfl rfl ?_
                                            refine jv_istoreK (L2 := [some (.inr (.inr 94)), some (.inl c), some (.inl r), some (.inl a), some (.inl q), some (.inl 0), some (.inl x6_41), some (.inl 1), some (.inl 5), some (.inl 0), none]) rfl rfl rfl ?_
                                            refine jv_iload rfl rfl rfl ?_
                                            refine jv_istoreK (L2 := [some (.inr (.inr 94)), some (.inl c), some (.inl r), some (.inl a), some (.inl q), some (.inl 0), some (.inl x6_41), some (.inl 1), some (.inl 5), some (.inl 0), some (.inl 1)]) rfl rfl rfl ?_
                                            exfalso; omega
                                        · first
                                          | (exfalso; omega)
                                          | skip
                                            refine jv_iload rfl rfl rfl ?_
                                            refine jv_iconst rfl rfl ?_
                                            refine jv_icmp_ne rfl rfl rfl (fun c55_2 => ?_) (fun c55_2 => ?_)
                                            · first
                                              | (exfalso; omega)
                                              | skip
                                                refine jv_iload rfl rfl rfl ?_
                                                refine jv_iconst rfl rfl ?_
                                                refine jv_icmp_ne rfl rfl rfl (fun c60_2 => ?_) (fun c60_2 => ?_)
                                                · first
                                                  | (exfalso; omega)
                                                  | skip
                                                    refine jv_bipush rfl rfl ?_
                                                    refine jv_istoreK (L2 := [some (.inr (.inr 94)), some (.inl c), some (.inl r), some (.inl a), some (.inl q), some (.inl 0), some (.inl x6_41), some (.inl 1), some (.inl 9), none, none]) rfl rfl rfl ?_
                                                    refine jv_iconst rfl rfl ?_
                                                    refine jv_istoreK (L2 := [some (.inr (.inr 94)), some (.inl c), some (.inl r), some (.inl a), some (.inl q), some (.inl 0), some (.inl x6_41), some (.inl 1), some (.inl 9), some (.inl 0), none]) rfl rfl rfl ?_
                                                    refine jv_iload rfl rfl rfl ?_
                                                    refine jv_istoreK (L2 := [some (.inr (.inr 94)), some (.inl c), some (.inl r), some (.inl a), some (.inl q), some (.inl 0), some (.inl x6_41), some (.inl 1), some (.inl 9), some (.inl 0), some (.inl 1)]) rfl rfl rfl ?_
                                                    exfalso; omega
                                                · first
                                                  | (exfalso; omega)
                                                  | skip
                                                    refine jv_bipush rfl rfl ?_
                                                    refine jv_goto rfl rfl ?_
                                                    refine jv_istoreK (L2 := [some (.inr (.inr 94)), some (.inl c), some (.inl r), some (.inl a), some (.inl q), some (.inl 0), some (.inl x6_41), some (.inl 1), some (.inl 29), none, none]) rfl rfl rfl ?_
                                                    refine jv_iconst rfl rfl ?_
                                                    refine jv_istoreK (L2 := [some (.inr (.inr 94)), some (.inl c), some (.inl r), some (.inl a), some (.inl q), some (.inl 0), some (.inl x6_41), some (.inl 1), some (.inl 29), some (.inl 0), none]) rfl rfl rfl ?_
                                                    refine jv_iload rfl rfl rfl ?_
                                                    refine jv_istoreK (L2 := [some (.inr (.inr 94)), some (.inl c), some (.inl r), some (.inl a), some (.inl q), some (.inl 0), some (.inl x6_41), some (.inl 1), some (.inl 29), some (.inl 0), some (.inl 1)]) rfl rfl rfl ?_
                                                    exfalso; omega
                                            · first
                                              | (exfalso; omega)
                                              | skip
                                                refine jv_iconst rfl rfl ?_
                                                refine jv_goto rfl rfl ?_
                                                refine jv_istoreK (L2 := [some (.inr (.inr 94)), some (.inl c), some (.inl r), some (.inl a), some (.inl q), some (.inl 0), some (.inl x6_41), some (.inl 1), some (.inl 5), none, none]) rfl rfl rfl ?_
                                                refine jv_iconst rfl rfl ?_
                                                refine jv_istoreK (L2 := [some (.inr (.inr 94)), some (.inl c), some (.inl r), some (.inl a), some (.inl q), some (.inl 0), some (.inl x6_41), some (.inl 1), some (.inl 5), some (.inl 0), none]) rfl rfl rfl ?_
                                                refine jv_iload rfl rfl rfl ?_
                                                refine jv_istoreK (L2 := [some (.inr (.inr 94)), some (.inl c), some (.inl r), some (.inl a), some (.inl q), some (.inl 0), some (.inl x6_41), some (.inl 1), some (.inl 5), some (.inl 0), some (.inl 1)]) rfl rfl rfl ?_
                                                exfalso; omega
                            · first
                              | (exfalso; omega)
                              | skip
                                refine jv_bipush rfl rfl ?_
                                refine jv_goto rfl rfl ?_
                                refine jv_iload_n rfl rfl rfl ?_
                                refine jv_iadd rfl rfl ⟨by omega, by omega⟩ ?_
                                refine jv_istore (fun x => [some (.inr (.inr 94)), some (.inl c), some (.inl r), some (.inl a), some (.inl q), some (.inl 0), some (.inl x), none, none, none, none]) rfl rfl (fun _ => rfl) (fun x6_41_1 ex6_41_1 => ?_)
                                refine jv_iload rfl rfl rfl ?_
                                refine jv_if_eq rfl rfl rfl (fun c43_1 => ?_) (fun c43_1 => ?_)
                                · first
                                  | (exfalso; omega)
                                  | skip
                                    refine jv_iconst rfl rfl ?_
                                    refine jv_goto rfl rfl ?_
                                    refine jv_istoreK (L2 := [some (.inr (.inr 94)), some (.inl c), some (.inl r), some (.inl a), some (.inl q), some (.inl 0), some (.inl x6_41_1), some (.inl 1), none, none, none]) rfl rfl rfl ?_
                                    refine jv_iload rfl rfl rfl ?_
                                    refine jv_if_eq rfl rfl rfl (fun c52_3 => ?_) (fun c52_3 => ?_)
                                    · first
                                      | (exfalso; omega)
                                      | skip
                                        refine jv_iconst rfl rfl ?_
                                        refine jv_goto rfl rfl ?_
                                        refine jv_istoreK (L2 := [some (.inr (.inr 94)), some (.inl c), some (.inl r), some (.inl a), some (.inl q), some (.inl 0), some (.inl x6_41_1), some (.inl 1), some (.inl 5), none, none]) rfl rfl rfl ?_
                                        refine jv_iconst rfl rfl ?_
                                        refine jv_istoreK (L2 := [some (.inr (.inr 94)), some (.inl c), some (.inl r), some (.inl a), some (.inl q), some (.inl 0), some (.inl x6_41_1), some (.inl 1), some (.inl 5), some (.inl 0), none]) rfl rfl rfl ?_
                                        refine jv_iload rfl rfl rfl ?_
                                        refine jv_istoreK (L2 := [some (.inr (.inr 94)), some (.inl c), some (.inl r), some (.inl a), some (.inl q), some (.inl 0), some (.inl x6_41_1), some (.inl 1), some (.inl 5), some (.inl 0), some (.inl 1)]) rfl rfl rfl ?_
                                        exfalso; omega
                                    · first
                                      | (exfalso; omega)
                                      | skip
                                        refine jv_iload rfl rfl rfl ?_
                                        refine jv_iconst rfl rfl ?_
                                        refine jv_icmp_ne rfl rfl rfl (fun c55_3 => ?_) (fun c55_3 => ?_)
                                        · first
                                          | (exfalso; omega)
                                          | skip
                                            refine jv_iload rfl rfl rfl ?_
                                            refine jv_iconst rfl rfl ?_
                                            refine jv_icmp_ne rfl rfl rfl (fun c60_3 => ?_) (fun c60_3 => ?_)
                                            · first
                                              | (exfalso; omega)
                                              | skip
                                                refine jv_bipush rfl rfl ?_
                                                refine jv_istoreK (L2 := [some (.inr (.inr 94)), some (.inl c), some (.inl r), some (.inl a), some (.inl q), some (.inl 0), some (.inl x6_41_1), some (.inl 1), some (.inl 9), none, none]) rfl rfl rfl ?_
                                                refine jv_iconst rfl rfl ?_
                                                refine jv_istoreK (L2 := [some (.inr (.inr 94)), some (.inl c), some (.inl r), some (.inl a), some (.inl q), some (.inl 0), some (.inl x6_41_1), some (.inl 1), some (.inl 9), some (.inl 0), none]) rfl rfl rfl ?_
                                                refine jv_iload rfl rfl rfl ?_
                                                refine jv_istoreK (L2 := [some (.inr (.inr 94)), some (.inl c), some (.inl r), some (.inl a), some (.inl q), some (.inl 0), some (.inl x6_41_1), some (.inl 1), some (.inl 9), some (.inl 0), some (.inl 1)]) rfl rfl rfl ?_
                                                exfalso; omega
                                            · first
                                              | (exfalso; omega)
                                              | skip
                                                refine jv_bipush rfl rfl ?_
                                                refine jv_goto rfl rfl ?_
                                                refine jv_istoreK (L2 := [some (.inr (.inr 94)), some (.inl c), some (.inl r), some (.inl a), some (.inl q), some (.inl 0), some (.inl x6_41_1), some (.inl 1), some (.inl 29), none, none]) rfl rfl rfl ?_
                                                refine jv_iconst rfl rfl ?_
                                                refine jv_istoreK (L2 := [some (.inr (.inr 94)), some (.inl c), some (.inl r), some (.inl a), some (.inl q), some (.inl 0), some (.inl x6_41_1), some (.inl 1), some (.inl 29), some (.inl 0), none]) rfl rfl rfl ?_
                                                refine jv_iload rfl rfl rfl ?_
                                                refine jv_istoreK (L2 := [some (.inr (.inr 94)), some (.inl c), some (.inl r), some (.inl a), some (.inl q), some (.inl 0), some (.inl x6_41_1), some (.inl 1), some (.inl 29), some (.inl 0), some (.inl 1)]) rfl rfl rfl ?_
                                                exfalso; omega
                                        · first
                                          | (exfalso; omega)
                                          | skip
                                            refine jv_iconst rfl rfl ?_
                                            refine jv_goto rfl rfl ?_
                                            refine jv_istoreK (L2 := [some (.inr (.inr 94)), some (.inl c), some (.inl r), some (.inl a), some (.inl q), some (.inl 0), some (.inl x6_41_1), some (.inl 1), some (.inl 5), none, none]) rfl rfl rfl ?_
                                            refine jv_iconst rfl rfl ?_
                                            refine jv_istoreK (L2 := [some (.inr (.inr 94)), some (.inl c), some (.inl r), some (.inl a), some (.inl q), some (.inl 0), some (.inl x6_41_1), some (.inl 1), some (.inl 5), some (.inl 0), none]) rfl rfl rfl ?_
                                            refine jv_iload rfl rfl rfl ?_
                                            refine jv_istoreK (L2 := [some (.inr (.inr 94)), some (.inl c), some (.inl r), some (.inl a), some (.inl q), some (.inl 0), some (.inl x6_41_1), some (.inl 1), some (.inl 5), some (.inl 0), some (.inl 1)]) rfl rfl rfl ?_
                                            exfalso; omega
                                · first
                                  | (exfalso; omega)
                                  | skip
                                    refine jv_iload rfl rfl rfl ?_
                                    refine jv_iconst rfl rfl ?_
                                    refine jv_icmp_ne rfl rfl rfl (fun c46_1 => ?_) (fun c46_1 => ?_)
                                    · first
                                      | (exfalso; omega)
                                      | skip
                                        refine jv_iconst rfl rfl ?_
                                        refine jv_istoreK (L2 := [some (.inr (.inr 94)), some (.inl c), some (.inl r), some (.inl a), some (.inl q), some (.inl 0), some (.inl x6_41_1), some (.inl 0), none, none, none]) rfl rfl rfl ?_
                                        refine jv_iload rfl rfl rfl ?_
                                        refine jv_if_eq rfl rfl rfl (fun c52_4 => ?_) (fun c52_4 => ?_)
                                        · first
                                          | (exfalso; omega)
                                          | skip
                                            refine jv_iconst rfl rfl ?_
                                            refine jv_goto rfl rfl ?_
                                            refine jv_istoreK (L2 := [some (.inr (.inr 94)), some (.inl c), some (.inl r), some (.inl a), some (.inl q), some (.inl 0), some (.inl x6_41_1), some (.inl 0), some (.inl 5), none, none]) rfl rfl rfl ?_
                                            refine jv_iconst rfl rfl ?_
                                            refine jv_istoreK (L2 := [some (.inr (.inr 94)), some (.inl c), some (.inl r), some (.inl a), some (.inl q), some (.inl 0), some (.inl x6_41_1), some (.inl 0), some (.inl 5), some (.inl 0), none]) rfl rfl rfl ?_
                                            refine jv_iload rfl rfl rfl ?_
                                            refine jv_istoreK (L2 := [some (.inr (.inr 94)), some (.inl c), some (.inl r), some (.inl a), some (.inl q), some (.inl 0), some (.inl x6_41_1), some (.inl 0), some (.inl 5), some (.inl 0), some (.inl 0)]) rfl rfl rfl ?_
                                            exfalso; omega
                                        · first
                                          | (exfalso; omega)
                                          | skip
                                            refine jv_iload rfl rfl rfl ?_
                                            refine jv_iconst rfl rfl ?_
                                            refine jv_icmp_ne rfl rfl rfl (fun c55_4 => ?_) (fun c55_4 => ?_)
                                            · first
                                              | (exfalso; omega)
                                              | skip
                                                refine jv_iload rfl rfl rfl ?_
                                                refine jv_iconst rfl rfl ?_
                                                refine jv_icmp_ne rfl rfl rfl (fun c60_4 => ?_) (fun c60_4 => ?_)
                                                · first
                                                  | (exfalso; omega)
                                                  | skip
                                                    refine jv_bipush rfl rfl ?_
                                                    refine jv_istoreK (L2 := [some (.inr (.inr 94)), some (.inl c), some (.inl r), some (.inl a), some (.inl q), some (.inl 0), some (.inl x6_41_1), some (.inl 0), some (.inl 9), none, none]) rfl rfl rfl ?_
                                                    refine jv_iconst rfl rfl ?_
                                                    refine jv_istoreK (L2 := [some (.inr (.inr 94)), some (.inl c), some (.inl r), some (.inl a), some (.inl q), some (.inl 0), some (.inl x6_41_1), some (.inl 0), some (.inl 9), some (.inl 0), none]) rfl rfl rfl ?_
                                                    refine jv_iload rfl rfl rfl ?_
                                                    refine jv_istoreK (L2 := [some (.inr (.inr 94)), some (.inl c), some (.inl r), some (.inl a), some (.inl q), some (.inl 0), some (.inl x6_41_1), some (.inl 0), some (.inl 9), some (.inl 0), some (.inl 0)]) rfl rfl rfl ?_
                                                    exfalso; omega
                                                · first
                                                  | (exfalso; omega)
                                                  | skip
                                                    refine jv_bipush rfl rfl ?_
                                                    refine jv_goto rfl rfl ?_
                                                    refine jv_istoreK (L2 := [some (.inr (.inr 94)), some (.inl c), some (.inl r), some (.inl a), some (.inl q), some (.inl 0), some (.inl x6_41_1), some (.inl 0), some (.inl 29), none, none]) rfl rfl rfl ?_
                                                    refine jv_iconst rfl rfl ?_
                                                    refine jv_istoreK (L2 := [some (.inr (.inr 94)), some (.inl c), some (.inl r), some (.inl a), some (.inl q), some (.inl 0), some (.inl x6_41_1), some (.inl 0), some (.inl 29), some (.inl 0), none]) rfl rfl rfl ?_
                                                    refine jv_iload rfl rfl rfl ?_
                                                    refine jv_istoreK (L2 := [some (.inr (.inr 94)), some (.inl c), some (.inl r), some (.inl a), some (.inl q), some (.inl 0), some (.inl x6_41_1), some (.inl 0), some (.inl 29), some (.inl 0), some (.inl 0)]) rfl rfl rfl ?_
                                                    exfalso; omega
                                            · first
                                              | (exfalso; omega)
                                              | skip
                                                refine jv_iconst rfl rfl ?_
                                                refine jv_goto rfl rfl ?_
                                                refine jv_istoreK (L2 := [some (.inr (.inr 94)), some (.inl c), some (.inl r), some (.inl a), some (.inl q), some (.inl 0), some (.inl x6_41_1), some (.inl 0), some (.inl 5), none, none]) rfl rfl rfl ?_
                                                refine jv_iconst rfl rfl ?_
                                                refine jv_istoreK (L2 := [some (.inr (.inr 94)), some (.inl c), some (.inl r), some (.inl a), some (.inl q), some (.inl 0), some (.inl x6_41_1), some (.inl 0), some (.inl 5), some (.inl 0), none]) rfl rfl rfl ?_
                                                refine jv_iload rfl rfl rfl ?_
                                                refine jv_istoreK (L2 := [some (.inr (.inr 94)), some (.inl c), some (.inl r), some (.inl a), some (.inl q), some (.inl 0), some (.inl x6_41_1), some (.inl 0), some (.inl 5), some (.inl 0), some (.inl 0)]) rfl rfl rfl ?_
                                                exfalso; omega
                                    · first
                                      | (exfalso; omega)
                                      | skip
                                        refine jv_iconst rfl rfl ?_
                                        refine jv_goto rfl rfl ?_
                                        refine jv_istoreK (L2 := [some (.inr (.inr 94)), some (.inl c), some (.inl r), some (.inl a), some (.inl q), some (.inl 0), some (.inl x6_41_1), some (.inl 1), none, none, none]) rfl rfl rfl ?_
                                        refine jv_iload rfl rfl rfl ?_
                                        refine jv_if_eq rfl rfl rfl (fun c52_5 => ?_) (fun c52_5 => ?_)
                                        · first
                                          | (exfalso; omega)
                                          | skip
                                            refine jv_iconst rfl rfl ?_
                                            refine jv_goto rfl rfl ?_
                                            refine jv_istoreK (L2 := [some (.inr (.inr 94)), some (.inl c), some (.inl r), some (.inl a), some (.inl q), some (.inl 0), some (.inl x6_41_1), some (.inl 1), some (.inl 5), none, none]) rfl rfl rfl ?_
                                            refine jv_iconst rfl rfl ?_
                                            refine jv_istoreK (L2 := [some (.inr (.inr 94)), some (.inl c), some (.inl r), some (.inl a), some (.inl q), some (.inl 0), some (.inl x6_41_1), some (.inl 1), some (.inl 5), some (.inl 0), none]) rfl rfl rfl ?_
                                            refine jv_iload rfl rfl rfl ?_
                                            refine jv_istoreK (L2 := [some (.inr (.inr 94)), some (.inl c), some (.inl r), some (.inl a), some (.inl q), some (.inl 0), some (.inl x6_41_1), some (.inl 1), some (.inl 5), some (.inl 0), some (.inl 1)]) rfl rfl rfl ?_
                                            exfalso; omega
                                        · first
                                          | (exfalso; omega)
                                          | skip
                                            refine jv_iload rfl rfl rfl ?_
                                            refine jv_iconst rfl rfl ?_
                                            refine jv_icmp_ne rfl rfl rfl (fun c55_5 => ?_) (fun c55_5 => ?_)
                                            · first
                                              | (exfalso; omega)
                                              | skip
                                                refine jv_iload rfl rfl rfl ?_
                                                refine jv_iconst rfl rfl ?_
                                                refine jv_icmp_ne rfl rfl rfl (fun c60_5 => ?_) (fun c60_5 => ?_)
                                                · first
                                                  | (exfalso; omega)
                                                  | skip
                                                    refine jv_bipush rfl rfl ?_
                                                    refine jv_istoreK (L2 := [some (.inr (.inr 94)), some (.inl c), some (.inl r), some (.inl a), some (.inl q), some (.inl 0), some (.inl x6_41_1), some (.inl 1), some (.inl 9), none, none]) rfl rfl rfl ?_
                                                    refine jv_iconst rfl rfl ?_
                                                    refine jv_istoreK (L2 := [some (.inr (.inr 94)), some (.inl c), some (.inl r), some (.inl a), some (.inl q), some (.inl 0), some (.inl x6_41_1), some (.inl 1), some (.inl 9), some (.inl 0), none]) rfl rfl rfl ?_
                                                    refine jv_iload rfl rfl rfl ?_
                                                    refine jv_istoreK (L2 := [some (.inr (.inr 94)), some (.inl c), some (.inl r), some (.inl a), some (.inl q), some (.inl 0), some (.inl x6_41_1), some (.inl 1), some (.inl 9), some (.inl 0), some (.inl 1)]) rfl rfl rfl ?_
                                                    exfalso; omega
                                                · first
                                                  | (exfalso; omega)
                                                  | skip
                                                    refine jv_bipush rfl rfl ?_
                                                    refine jv_goto rfl rfl ?_
                                                    refine jv_istoreK (L2 := [some (.inr (.inr 94)), some (.inl c), some (.inl r), some (.inl a), some (.inl q), some (.inl 0), some (.inl x6_41_1), some (.inl 1), some (.inl 29), none, none]) rfl rfl rfl ?_
                                                    refine jv_iconst rfl rfl ?_
                                                    refine jv_istoreK (L2 := [some (.inr (.inr 94)), some (.inl c), some (.inl r), some (.inl a), some (.inl q), some (.inl 0), some (.inl x6_41_1), some (.inl 1), some (.inl 29), some (.inl 0), none]) rfl rfl rfl ?_
                                                    refine jv_iload rfl rfl rfl ?_
                                                    refine jv_istoreK (L2 := [some (.inr (.inr 94)), some (.inl c), some (.inl r), some (.inl a), some (.inl q), some (.inl 0), some (.inl x6_41_1), some (.inl 1), some (.inl 29), some (.inl 0), some (.inl 1)]) rfl rfl rfl ?_
                                                    exfalso; omega
                                            · first
                                              | (exfalso; omega)
                                              | skip
                                                refine jv_iconst rfl rfl ?_
                                                refine jv_goto rfl rfl ?_
                                                refine jv_istoreK (L2 := [some (.inr (.inr 94)), some (.inl c), some (.inl r), some (.inl a), some (.inl q), some (.inl 0), some (.inl x6_41_1), some (.inl 1), some (.inl 5), none, none]) rfl rfl rfl ?_
                                                refine jv_iconst rfl rfl ?_
                                                refine jv_istoreK (L2 := [some (.inr (.inr 94)), some (.inl c), some (.inl r), some (.inl a), some (.inl q), some (.inl 0), some (.inl x6_41_1), some (.inl 1), some (.inl 5), some (.inl 0), none]) rfl rfl rfl ?_
                                                refine jv_iload rfl rfl rfl ?_
                                                refine jv_istoreK (L2 := [some (.inr (.inr 94)), some (.inl c), some (.inl r), some (.inl a), some (.inl q), some (.inl 0), some (.inl x6_41_1), some (.inl 1), some (.inl 5), some (.inl 0), some (.inl 1)]) rfl rfl rfl ?_
                                                exfalso; omega
                        · first
                          | (exfalso; omega)
                          | skip
                            refine jv_bipush rfl rfl ?_
                            refine jv_goto rfl rfl ?_
                            refine jv_iload_n rfl rfl rfl ?_
                            refine jv_iadd rfl rfl ⟨by omega, by omega⟩ ?_
                            refine jv_istore (fun x => [some (.inr (.inr 94)), some (.inl c), some (.inl r), some (.inl a), some (.inl q), some (.inl 0), some (.inl x), none, none, none, none]) rfl rfl (fun _ => rfl) (fun x6_41_2 ex6_41_2 => ?_)
                            refine jv_iload rfl rfl rfl ?_
                            refine jv_if_eq rfl rfl rfl (fun c43_2 => ?_) (fun c43_2 => ?_)
                            · first
                              | (exfalso; omega)
                              | skip
                                refine jv_iconst rfl rfl ?_
                                refine jv_goto rfl rfl ?_
                                refine jv_istoreK (L2 := [some (.inr (.inr 94)), some (.inl c), some (.inl r), some (.inl a), some (.inl q), some (.inl 0), some (.inl x6_41_2), some (.inl 1), none, none, none]) rfl rfl rfl ?_
                                refine jv_iload rfl rfl rfl ?_
                                refine jv_if_eq rfl rfl rfl (fun c52_6 => ?_) (fun c52_6 => ?_)
                                · first
                                  | (exfalso; omega)
                                  | skip
                                    refine jv_iconst rfl rfl ?_
                                    refine jv_goto rfl rfl ?_
                                    refine jv_istoreK (L2 := [some (.inr (.inr 94)), some (.inl c), some (.inl r), some (.inl a), some (.inl q), some (.inl 0), some (.inl x6_41_2), some (.inl 1), some (.inl 5), none, none]) rfl rfl rfl ?_
                                    refine jv_iconst rfl rfl ?_
                                    refine jv_istoreK (L2 := [some (.inr (.inr 94)), some (.inl c), some (.inl r), some (.inl a), some (.inl q), some (.inl 0), some (.inl x6_41_2), some (.inl 1), some (.inl 5), some (.inl 0), none]) rfl rfl rfl ?_
                                    refine jv_iload rfl rfl rfl ?_
                                    refine jv_istoreK (L2 := [some (.inr (.inr 94)), some (.inl c), some (.inl r), some (.inl a), some (.inl q), some (.inl 0), some (.inl x6_41_2), some (.inl 1), some (.inl 5), some (.inl 0), some (.inl 1)]) rfl rfl rfl ?_
                                    exfalso; omega
                                · first
                                  | (exfalso; omega)
                                  | skip
                                    refine jv_iload rfl rfl rfl ?_
                                    refine jv_iconst rfl rfl ?_
                                    refine jv_icmp_ne rfl rfl rfl (fun c55_6 => ?_) (fun c55_6 => ?_)
                                    · first
                                      | (exfalso; omega)
                                      | skip
                                        refine jv_iload rfl rfl rfl ?_
                                        refine jv_iconst rfl rfl ?_
                                        refine jv_icmp_ne rfl rfl rfl (fun c60_6 => ?_) (fun c60_6 => ?_)
                                        · first
                                          | (exfalso; omega)
                                          | skip
                                            refine jv_bipush rfl rfl ?_
                                            refine jv_istoreK (L2 := [some (.inr (.inr 94)), some (.inl c), some (.inl r), some (.inl a), some (.inl q), some (.inl 0), some (.inl x6_41_2), some (.inl 1), some (.inl 9), none, none]) rfl rfl rfl ?_
                                            refine jv_iconst rfl rfl ?_
                                            refine jv_istoreK (L2 := [some (.inr (.inr 94)), some (.inl c), some (.inl r), some (.inl a), some (.inl q), some (.inl 0), some (.inl x6_41_2), some (.inl 1), some (.inl 9), some (.inl 0), none]) rfl rfl rfl ?_
                                            refine jv_iload rfl rfl rfl ?_
                                            refine jv_istoreK (L2 := [some (.inr (.inr 94)), some (.inl c), some (.inl r), some (.inl a), some (.inl q), some (.inl 0), some (.inl x6_41_2), some (.inl 1), some (.inl 9), some (.inl 0), some (.inl 1)]) rfl rfl rfl ?_
                                            exfalso; omega
                                        · first
                                          | (exfalso; omega)
                                          | skip
                                            refine jv_bipush rfl rfl ?_
                                            refine jv_goto rfl rfl ?_
                                            refine jv_istoreK (L2 := [some (.inr (.inr 94)), some (.inl c), some (.inl r), some (.inl a), some (.inl q), some (.inl 0), some (.inl x6_41_2), some (.inl 1), some (.inl 29), none, none]) rfl rfl rfl ?_
                                            refine jv_iconst rfl rfl ?_
                                            refine jv_istoreK (L2 := [some (.inr (.inr 94)), some (.inl c), some (.inl r), some (.inl a), some (.inl q), some (.inl 0), some (.inl x6_41_2), some (.inl 1), some (.inl 29), some (.inl 0), none]) rfl rfl rfl ?_
                                            refine jv_iload rfl rfl rfl ?_
                                            refine jv_istoreK (L2 := [some (.inr (.inr 94)), some (.inl c), some (.inl r), some (.inl a), some (.inl q), some (.inl 0), some (.inl x6_41_2), some (.inl 1), some (.inl 29), some (.inl 0), some (.inl 1)]) rfl rfl rfl ?_
                                            exfalso; omega
                                    · first
                                      | (exfalso; omega)
                                      | skip
                                        refine jv_iconst rfl rfl ?_
                                        refine jv_goto rfl rfl ?_
                                        refine jv_istoreK (L2 := [some (.inr (.inr 94)), some (.inl c), some (.inl r), some (.inl a), some (.inl q), some (.inl 0), some (.inl x6_41_2), some (.inl 1), some (.inl 5), none, none]) rfl rfl rfl ?_
                                        refine jv_iconst rfl rfl ?_
                                        refine jv_istoreK (L2 := [some (.inr (.inr 94)), some (.inl c), some (.inl r), some (.inl a), some (.inl q), some (.inl 0), some (.inl x6_41_2), some (.inl 1), some (.inl 5), some (.inl 0), none]) rfl rfl rfl ?_
                                        refine jv_iload rfl rfl rfl ?_
                                        refine jv_istoreK (L2 := [some (.inr (.inr 94)), some (.inl c), some (.inl r), some (.inl a), some (.inl q), some (.inl 0), some (.inl x6_41_2), some (.inl 1), some (.inl 5), some (.inl 0), some (.inl 1)]) rfl rfl rfl ?_
                                        exfalso; omega
                            · first
                              | (exfalso; omega)
                              | skip
                                refine jv_iload rfl rfl rfl ?_
                                refine jv_iconst rfl rfl ?_
                                refine jv_icmp_ne rfl rfl rfl (fun c46_2 => ?_) (fun c46_2 => ?_)
                                · first
                                  | (exfalso; omega)
                                  | skip
                                    refine jv_iconst rfl rfl ?_
                                    refine jv_istoreK (L2 := [some (.inr (.inr 94)), some (.inl c), some (.inl r), some (.inl a), some (.inl q), some (.inl 0), some (.inl x6_41_2), some (.inl 0), none, none, none]) rfl rfl rfl ?_
                                    refine jv_iload rfl rfl rfl ?_
                                    refine jv_if_eq rfl rfl rfl (fun c52_7 => ?_) (fun c52_7 => ?_)
                                    · first
                                      | (exfalso; omega)
                                      | skip
                                        refine jv_iconst rfl rfl ?_
                                        refine jv_goto rfl rfl ?_
                                        refine jv_istoreK (L2 := [some (.inr (.inr 94)), some (.inl c), some (.inl r), some (.inl a), some (.inl q), some (.inl 0), some (.inl x6_41_2), some (.inl 0), some (.inl 5), none, none]) rfl rfl rfl ?_
                                        refine jv_iconst rfl rfl ?_
                                        refine jv_istoreK (L2 := [some (.inr (.inr 94)), some (.inl c), some (.inl r), some (.inl a), some (.inl q), some (.inl 0), some (.inl x6_41_2), some (.inl 0), some (.inl 5), some (.inl 0), none]) rfl rfl rfl ?_
                                        refine jv_iload rfl rfl rfl ?_
                                        refine jv_istoreK (L2 := [some (.inr (.inr 94)), some (.inl c), some (.inl r), some (.inl a), some (.inl q), some (.inl 0), some (.inl x6_41_2), some (.inl 0), some (.inl 5), some (.inl 0), some (.inl 0)]) rfl rfl rfl ?_
                                        exfalso; omega
                                    · first
                                      | (exfalso; omega)
                                      | skip
                                        refine jv_iload rfl rfl rfl ?_
                                        refine jv_iconst rfl rfl ?_
                                        refine jv_icmp_ne rfl rfl rfl (fun c55_7 => ?_) (fun c55_7 => ?_)
                                        · first
                                          | (exfalso; omega)
                                          | skip
                                            refine jv_iload rfl rfl rfl ?_
                                            refine jv_iconst rfl rfl ?_
                                            refine jv_icmp_ne rfl rfl rfl (fun c60_7 => ?_) (fun c60_7 => ?_)
                                            · first
                                              | (exfalso; omega)
                                              | skip
                                                refine jv_bipush rfl rfl ?_
                                                refine jv_istoreK (L2 := [some (.inr (.inr 94)), some (.inl c), some (.inl r), some (.inl a), some (.inl q), some (.inl 0), some (.inl x6_41_2), some (.inl 0), some (.inl 9), none, none]) rfl rfl rfl ?_
                                                refine jv_iconst rfl rfl ?_
                                                refine jv_istoreK (L2 := [some (.inr (.inr 94)), some (.inl c), some (.inl r), some (.inl a), some (.inl q), some (.inl 0), some (.inl x6_41_2), some (.inl 0), some (.inl 9), some (.inl 0), none]) rfl rfl rfl ?_
                                                refine jv_iload rfl rfl rfl ?_
                                                refine jv_istoreK (L2 := [some (.inr (.inr 94)), some (.inl c), some (.inl r), some (.inl a), some (.inl q), some (.inl 0), some (.inl x6_41_2), some (.inl 0), some (.inl 9), some (.inl 0), some (.inl 0)]) rfl rfl rfl ?_
                                                exfalso; omega
                                            · first
                                              | (exfalso; omega)
                                              | skip
                                                refine jv_bipush rfl rfl ?_
                                                refine jv_goto rfl rfl ?_
                                                refine jv_istoreK (L2 := [some (.inr (.inr 94)), some (.inl c), some (.inl r), some (.inl a), some (.inl q), some (.inl 0), some (.inl x6_41_2), some (.inl 0), some (.inl 29), none, none]) rfl rfl rfl ?_
                                                refine jv_iconst rfl rfl ?_
                                                refine jv_istoreK (L2 := [some (.inr (.inr 94)), some (.inl c), some (.inl r), some (.inl a), some (.inl q), some (.inl 0), some (.inl x6_41_2), some (.inl 0), some (.inl 29), some (.inl 0), none]) rfl rfl rfl ?_
                                                refine jv_iload rfl rfl rfl ?_
                                                refine jv_istoreK (L2 := [some (.inr (.inr 94)), some (.inl c), some (.inl r), some (.inl a), some (.inl q), some (.inl 0), some (.inl x6_41_2), some (.inl 0), some (.inl 29), some (.inl 0), some (.inl 0)]) rfl rfl rfl ?_
                                                exfalso; omega
                                        · first
                                          | (exfalso; omega)
                                          | skip
                                            refine jv_iconst rfl rfl ?_
                                            refine jv_goto rfl rfl ?_
                                            refine jv_istoreK (L2 := [some (.inr (.inr 94)), some (.inl c), some (.inl r), some (.inl a), some (.inl q), some (.inl 0), some (.inl x6_41_2), some (.inl 0), some (.inl 5), none, none]) rfl rfl rfl ?_
                                            refine jv_iconst rfl rfl ?_
                                            refine jv_istoreK (L2 := [some (.inr (.inr 94)), some (.inl c), some (.inl r), some (.inl a), some (.inl q), some (.inl 0), some (.inl x6_41_2), some (.inl 0), some (.inl 5), some (.inl 0), none]) rfl rfl rfl ?_
                                            refine jv_iload rfl rfl rfl ?_
                                            refine jv_istoreK (L2 := [some (.inr (.inr 94)), some (.inl c), some (.inl r), some (.inl a), some (.inl q), some (.inl 0), some (.inl x6_41_2), some (.inl 0), some (.inl 5), some (.inl 0), some (.inl 0)]) rfl rfl rfl ?_
                                            exfalso; omega
                                · first
                                  | (exfalso; omega)
                                  | skip
                                    refine jv_iconst rfl rfl ?_
                                    refine jv_goto rfl rfl ?_
                                    refine jv_istoreK (L2 := [some (.inr (.inr 94)), some (.inl c), some (.inl r), some (.inl a), some (.inl q), some (.inl 0), some (.inl x6_41_2), some (.inl 1), none, none, none]) rfl rfl rfl ?_
                                    refine jv_iload rfl rfl rfl ?_
                                    refine jv_if_eq rfl rfl rfl (fun c52_8 => ?_) (fun c52_8 => ?_)
                                    · first
                                      | (exfalso; omega)
                                      | skip
                                        refine jv_iconst rfl rfl ?_
                                        refine jv_goto rfl rfl ?_
                                        refine jv_istoreK (L2 := [some (.inr (.inr 94)), some (.inl c), some (.inl r), some (.inl a), some (.inl q), some (.inl 0), some (.inl x6_41_2), some (.inl 1), some (.inl 5), none, none]) rfl rfl rfl ?_
                                        refine jv_iconst rfl rfl ?_
                                        refine jv_istoreK (L2 := [some (.inr (.inr 94)), some (.inl c), some (.inl r), some (.inl a), some (.inl q), some (.inl 0), some (.inl x6_41_2), some (.inl 1), some (.inl 5), some (.inl 0), none]) rfl rfl rfl ?_
                                        refine jv_iload rfl rfl rfl ?_
                                        refine jv_istoreK (L2 := [some (.inr (.inr 94)), some (.inl c), some (.inl r), some (.inl a), some (.inl q), some (.inl 0), some (.inl x6_41_2), some (.inl 1), some (.inl 5), some (.inl 0), some (.inl 1)]) rfl rfl rfl ?_
                                        exfalso; omega
                                    · first
                                      | (exfalso; omega)
                                      | skip
                                        refine jv_iload rfl rfl rfl ?_
                                        refine jv_iconst rfl rfl ?_
                                        refine jv_icmp_ne rfl rfl rfl (fun c55_8 => ?_) (fun c55_8 => ?_)
                                        · first
                                          | (exfalso; omega)
                                          | skip
                                            refine jv_iload rfl rfl rfl ?_
                                            refine jv_iconst rfl rfl ?_
                                            refine jv_icmp_ne rfl rfl rfl (fun c60_8 => ?_) (fun c60_8 => ?_)
                                            · first
                                              | (exfalso; omega)
                                              | skip
                                                refine jv_bipush rfl rfl ?_
                                                refine jv_istoreK (L2 := [some (.inr (.inr 94)), some (.inl c), some (.inl r), some (.inl a), some (.inl q), some (.inl 0), some (.inl x6_41_2), some (.inl 1), some (.inl 9), none, none]) rfl rfl rfl ?_
                                                refine jv_iconst rfl rfl ?_
                                                refine jv_istoreK (L2 := [some (.inr (.inr 94)), some (.inl c), some (.inl r), some (.inl a), some (.inl q), some (.inl 0), some (.inl x6_41_2), some (.inl 1), some (.inl 9), some (.inl 0), none]) rfl rfl rfl ?_
                                                refine jv_iload rfl rfl rfl ?_
                                                refine jv_istoreK (L2 := [some (.inr (.inr 94)), some (.inl c), some (.inl r), some (.inl a), some (.inl q), some (.inl 0), some (.inl x6_41_2), some (.inl 1), some (.inl 9), some (.inl 0), some (.inl 1)]) rfl rfl rfl ?_
                                                exfalso; omega
                                            · first
                                              | (exfalso; omega)
                                              | skip
                                                refine jv_bipush rfl rfl ?_
                                                refine jv_goto rfl rfl ?_
                                                refine jv_istoreK (L2 := [some (.inr (.inr 94)), some (.inl c), some (.inl r), some (.inl a), some (.inl q), some (.inl 0), some (.inl x6_41_2), some (.inl 1), some (.inl 29), none, none]) rfl rfl rfl ?_
                                                refine jv_iconst rfl rfl ?_
                                                refine jv_istoreK (L2 := [some (.inr (.inr 94)), some (.inl c), some (.inl r), some (.inl a), some (.inl q), some (.inl 0), some (.inl x6_41_2), some (.inl 1), some (.inl 29), some (.inl 0), none]) rfl rfl rfl ?_
                                                refine jv_iload rfl rfl rfl ?_
                                                refine jv_istoreK (L2 := [some (.inr (.inr 94)), some (.inl c), some (.inl r), some (.inl a), some (.inl q), some (.inl 0), some (.inl x6_41_2), some (.inl 1), some (.inl 29), some (.inl 0), some (.inl 1)]) rfl rfl rfl ?_
                                                exfalso; omega
                                        · first
                                          | (exfalso; omega)
                                          | skip
                                            refine jv_iconst rfl rfl ?_
                                            refine jv_goto rfl rfl ?_
                                            refine jv_istoreK (L2 := [some (.inr (.inr 94)), some (.inl c), some (.inl r), some (.inl a), some (.inl q), some (.inl 0), some (.inl x6_41_2), some (.inl 1), some (.inl 5), none, none]) rfl rfl rfl ?_
                                            refine jv_iconst rfl rfl ?_
                                            refine jv_istoreK (L2 := [some (.inr (.inr 94)), some (.inl c), some (.inl r), some (.inl a), some (.inl q), some (.inl 0), some (.inl x6_41_2), some (.inl 1), some (.inl 5), some (.inl 0), none]) rfl rfl rfl ?_
                                            refine jv_iload rfl rfl rfl ?_
                                            refine jv_istoreK (L2 := [some (.inr (.inr 94)), some (.inl c), some (.inl r), some (.inl a), some (.inl q), some (.inl 0), some (.inl x6_41_2), some (.inl 1), some (.inl 5), some (.inl 0), some (.inl 1)]) rfl rfl rfl ?_
                                            exfalso; omega
                    · first
                      | (exfalso; omega)
                      | skip
                        refine jv_bipush rfl rfl ?_
                        refine jv_goto rfl rfl ?_
                        refine jv_iload_n rfl rfl rfl ?_
                        refine jv_iadd rfl rfl ⟨by omega, by omega⟩ ?_
                        refine jv_istore (fun x => [some (.inr (.inr 94)), some (.inl c), some (.inl r), some (.inl a), some (.inl q), some (.inl 0), some (.inl x), none, none, none, none]) rfl rfl (fun _ => rfl) (fun x6_41_3 ex6_41_3 => ?_)
                        refine jv_iload rfl rfl rfl ?_
                        refine jv_if_eq rfl rfl rfl (fun c43_3 => ?_) (fun c43_3 => ?_)
                        · first
                          | (exfalso; omega)
                          | skip
                            refine jv_iconst rfl rfl ?_
                            refine jv_goto rfl rfl ?_
                            refine jv_istoreK (L2 := [some (.inr (.inr 94)), some (.inl c), some (.inl r), some (.inl a), some (.inl q), some (.inl 0), some (.inl x6_41_3), some (.inl 1), none, none, none]) rfl rfl rfl ?_
                            refine jv_iload rfl rfl rfl ?_
                            refine jv_if_eq rfl rfl rfl (fun c52_9 => ?_) (fun c52_9 => ?_)
                            · first
                              | (exfalso; omega)
                              | skip
                                refine jv_iconst rfl rfl ?_
                                refine jv_goto rfl rfl ?_
                                refine jv_istoreK (L2 := [some (.inr (.inr 94)), some (.inl c), some (.inl r), some (.inl a), some (.inl q), some (.inl 0), some (.inl x6_41_3), some (.inl 1), some (.inl 5), none, none]) rfl rfl rfl ?_
                                refine jv_iconst rfl rfl ?_
                                refine jv_istoreK (L2 := [some (.inr (.inr 94)), some (.inl c), some (.inl r), some (.inl a), some (.inl q), some (.inl 0), some (.inl x6_41_3), some (.inl 1), some (.inl 5), some (.inl 0), none]) rfl rfl rfl ?_
                                refine jv_iload rfl rfl rfl ?_
                                refine jv_istoreK (L2 := [some (.inr (.inr 94)), some (.inl c), some (.inl r), some (.inl a), some (.inl q), some (.inl 0), some (.inl x6_41_3), some (.inl 1), some (.inl 5), some (.inl 0), some (.inl 1)]) rfl rfl rfl ?_
                                exfalso; omega
                            · first
                              | (exfalso; omega)
                              | skip
                                refine jv_iload rfl rfl rfl ?_
                                refine jv_iconst rfl rfl ?_
                                refine jv_icmp_ne rfl rfl rfl (fun c55_9 => ?_) (fun c55_9 => ?_)
                                · first
                                  | (exfalso; omega)
                                  | skip
                                    refine jv_iload rfl rfl rfl ?_
                                    refine jv_iconst rfl rfl ?_
                                    refine jv_icmp_ne rfl rfl rfl (fun c60_9 => ?_) (fun c60_9 => ?_)
                                    · first
                                      | (exfalso; omega)
                                      | skip
                                        refine jv_bipush rfl rfl ?_
                                        refine jv_istoreK (L2 := [some (.inr (.inr 94)), some (.inl c), some (.inl r), some (.inl a), some (.inl q), some (.inl 0), some (.inl x6_41_3), some (.inl 1), some (.inl 9), none, none]) rfl rfl rfl ?_
                                        refine jv_iconst rfl rfl ?_
                                        refine jv_istoreK (L2 := [some (.inr (.inr 94)), some (.inl c), some (.inl r), some (.inl a), some (.inl q), some (.inl 0), some (.inl x6_41_3), some (.inl 1), some (.inl 9), some (.inl 0), none]) rfl rfl rfl ?_
                                        refine jv_iload rfl rfl rfl ?_
                                        refine jv_istoreK (L2 := [some (.inr (.inr 94)), some (.inl c), some (.inl r), some (.inl a), some (.inl q), some (.inl 0), some (.inl x6_41_3), some (.inl 1), some (.inl 9), some (.inl 0), some (.inl 1)]) rfl rfl rfl ?_
                                        exfalso; omega
                                    · first
                                      | (exfalso; omega)
                                      | skip
                                        refine jv_bipush rfl rfl ?_
                                        refine jv_goto rfl rfl ?_
                                        refine jv_istoreK (L2 := [some (.inr (.inr 94)), some (.inl c), some (.inl r), some (.inl a), some (.inl q), some (.inl 0), some (.inl x6_41_3), some (.inl 1), some (.inl 29), none, none]) rfl rfl rfl ?_
                                        refine jv_iconst rfl rfl ?_
                                        refine jv_istoreK (L2 := [some (.inr (.inr 94)), some (.inl c), some (.inl r), some (.inl a), some (.inl q), some (.inl 0), some (.inl x6_41_3), some (.inl 1), some (.inl 29), some (.inl 0), none]) rfl rfl rfl ?_
                                        refine jv_iload rfl rfl rfl ?_
                                        refine jv_istoreK (L2 := [some (.inr (.inr 94)), some (.inl c), some (.inl r), some (.inl a), some (.inl q), some (.inl 0), some (.inl x6_41_3), some (.inl 1), some (.inl 29), some (.inl 0), some (.inl 1)]) rfl rfl rfl ?_
                                        exfalso; omega
                                · first
                                  | (exfalso; omega)
                                  | skip
                                    refine jv_iconst rfl rfl ?_
                                    refine jv_goto rfl rfl ?_
                                    refine jv_istoreK (L2 := [some (.inr (.inr 94)), some (.inl c), some (.inl r), some (.inl a), some (.inl q), some (.inl 0), some (.inl x6_41_3), some (.inl 1), some (.inl 5), none, none]) rfl rfl rfl ?_
                                    refine jv_iconst rfl rfl ?_
                                    refine jv_istoreK (L2 := [some (.inr (.inr 94)), some (.inl c), some (.inl r), some (.inl a), some (.inl q), some (.inl 0), some (.inl x6_41_3), some (.inl 1), some (.inl 5), some (.inl 0), none]) rfl rfl rfl ?_
                                    refine jv_iload rfl rfl rfl ?_
                                    refine jv_istoreK (L2 := [some (.inr (.inr 94)), some (.inl c), some (.inl r), some (.inl a), some (.inl q), some (.inl 0), some (.inl x6_41_3), some (.inl 1), some (.inl 5), some (.inl 0), some (.inl 1)]) rfl rfl rfl ?_
                                    exfalso; omega
                        · first
                          | (exfalso; omega)
                          | skip
                            refine jv_iload rfl rfl rfl ?_
                            refine jv_iconst rfl rfl ?_
                            refine jv_icmp_ne rfl rfl rfl (fun c46_3 => ?_) (fun c46_3 => ?_)
                            · first
                              | (exfalso; omega)
                              | skip
                                refine jv_iconst rfl rfl ?_
                                refine jv_istoreK (L2 := [some (.inr (.inr 94)), some (.inl c), some (.inl r), some (.inl a), some (.inl q), some (.inl 0), some (.inl x6_41_3), some (.inl 0), none, none, none]) rfl rfl rfl ?_
                                refine jv_iload rfl rfl rfl ?_
                                refine jv_if_eq rfl rfl rfl (fun c52_10 => ?_) (fun c52_10 => ?_)
                                · first
                                  | (exfalso; omega)
                                  | skip
                                    refine jv_iconst rfl rfl ?_
                                    refine jv_goto rfl rfl ?_
                                    refine jv_istoreK (L2 := [some (.inr (.inr 94)), some (.inl c), some (.inl r), some (.inl a), some (.inl q), some (.inl 0), some (.inl x6_41_3), some (.inl 0), some (.inl 5), none, none]) rfl rfl rfl ?_
                                    refine jv_iconst rfl rfl ?_
                                    refine jv_istoreK (L2 := [some (.inr (.inr 94)), some (.inl c), some (.inl r), some (.inl a), some (.inl q), some (.inl 0), some (.inl x6_41_3), some (.inl 0), some (.inl 5), some (.inl 0), none]) rfl rfl rfl ?_
                                    refine jv_iload rfl rfl rfl ?_
                                    refine jv_istoreK (L2 := [some (.inr (.inr 94)), some (.inl c), some (.inl r), some (.inl a), some (.inl q), some (.inl 0), some (.inl x6_41_3), some (.inl 0), some (.inl 5), some (.inl 0), some (.inl 0)]) rfl rfl rfl ?_
                                    exfalso; omega
                                · first
                                  | (exfalso; omega)
                                  | skip
                                    refine jv_iload rfl rfl rfl ?_
                                    refine jv_iconst rfl rfl ?_
                                    refine jv_icmp_ne rfl rfl rfl (fun c55_10 => ?_) (fun c55_10 => ?_)
                                    · first
                                      | (exfalso; omega)
                                      | skip
                                        refine jv_iload rfl rfl rfl ?_
                                        refine jv_iconst rfl rfl ?_
                                        refine jv_icmp_ne rfl rfl rfl (fun c60_10 => ?_) (fun c60_10 => ?_)
                                        · first
                                          | (exfalso; omega)
                                          | skip
                                            refine jv_bipush rfl rfl ?_
                                            refine jv_istoreK (L2 := [some (.inr (.inr 94)), some (.inl c), some (.inl r), some (.inl a), some (.inl q), some (.inl 0), some (.inl x6_41_3), some (.inl 0), some (.inl 9), none, none]) rfl rfl rfl ?_
                                            refine jv_iconst rfl rfl ?_
                                            refine jv_istoreK (L2 := [some (.inr (.inr 94)), some (.inl c), some (.inl r), some (.inl a), some (.inl q), some (.inl 0), some (.inl x6_41_3), some (.inl 0), some (.inl 9), some (.inl 0), none]) rfl rfl rfl ?_
                                            refine jv_iload rfl rfl rfl ?_
                                            refine jv_istoreK (L2 := [some (.inr (.inr 94)), some (.inl c), some (.inl r), some (.inl a), some (.inl q), some (.inl 0), some (.inl x6_41_3), some (.inl 0), some (.inl 9), some (.inl 0), some (.inl 0)]) rfl rfl rfl ?_
                                            exfalso; omega
                                        · first
                                          | (exfalso; omega)
                                          | skip
                                            refine jv_bipush rfl rfl ?_
                                            refine jv_goto rfl rfl ?_
                                            refine jv_istoreK (L2 := [some (.inr (.inr 94)), some (.inl c), some (.inl r), some (.inl a), some (.inl q), some (.inl 0), some (.inl x6_41_3), some (.inl 0), some (.inl 29), none, none]) rfl rfl rfl ?_
                                            refine jv_iconst rfl rfl ?_
                                            refine jv_istoreK (L2 := [some (.inr (.inr 94)), some (.inl c), some (.inl r), some (.inl a), some (.inl q), some (.inl 0), some (.inl x6_41_3), some (.inl 0), some (.inl 29), some (.inl 0), none]) rfl rfl rfl ?_
                                            refine jv_iload rfl rfl rfl ?_
                                            refine jv_istoreK (L2 := [some (.inr (.inr 94)), some (.inl c), some (.inl r), some (.inl a), some (.inl q), some (.inl 0), some (.inl x6_41_3), some (.inl 0), some (.inl 29), some (.inl 0), some (.inl 0)]) rfl rfl rfl ?_
                                            exfalso; omega
                                    · first
                                      | (exfalso; omega)
                                      | skip
                                        refine jv_iconst rfl rfl ?_
                                        refine jv_goto rfl rfl ?_
                                        refine jv_istoreK (L2 := [some (.inr (.inr 94)), some (.inl c), some (.inl r), some (.inl a), some (.inl q), some (.inl 0), some (.inl x6_41_3), some (.inl 0), some (.inl 5), none, none]) rfl rfl rfl ?_
                                        refine jv_iconst rfl rfl ?_
                                        refine jv_istoreK (L2 := [some (.inr (.inr 94)), some (.inl c), some (.inl r), some (.inl a), some (.inl q), some (.inl 0), some (.inl x6_41_3), some (.inl 0), some (.inl 5), some (.inl 0), none]) rfl rfl rfl ?_
                                        refine jv_iload rfl rfl rfl ?_
                                        refine jv_istoreK (L2 := [some (.inr (.inr 94)), some (.inl c), some (.inl r), some (.inl a), some (.inl q), some (.inl 0), some (.inl x6_41_3), some (.inl 0), some (.inl 5), some (.inl 0), some (.inl 0)]) rfl rfl rfl ?_
                                        exfalso; omega
                            · first
                              | (exfalso; omega)
                              | skip
                                refine jv_iconst rfl rfl ?_
                                refine jv_goto rfl rfl ?_
                                refine jv_istoreK (L2 := [some (.inr (.inr 94)), some (.inl c), some (.inl r), some (.inl a), some (.inl q), some (.inl 0), some (.inl x6_41_3), some (.inl 1), none, none, none]) rfl rfl rfl ?_
                                refine jv_iload rfl rfl rfl ?_
                                refine jv_if_eq rfl rfl rfl (fun c52_11 => ?_) (fun c52_11 => ?_)
                                · first
                                  | (exfalso; omega)
                                  | skip
                                    refine jv_iconst rfl rfl ?_
                                    refine jv_goto rfl rfl ?_
                                    refine jv_istoreK (L2 := [some (.inr (.inr 94)), some (.inl c), some (.inl r), some (.inl a), some (.inl q), some (.inl 0), some (.inl x6_41_3), some (.inl 1), some (.inl 5), none, none]) rfl rfl rfl ?_
                                    refine jv_iconst rfl rfl ?_
                                    refine jv_istoreK (L2 := [some (.inr (.inr 94)), some (.inl c), some (.inl r), some (.inl a), some (.inl q), some (.inl 0), some (.inl x6_41_3), some (.inl 1), some (.inl 5), some (.inl 0), none]) rfl rfl rfl ?_
                                    refine jv_iload rfl rfl rfl ?_
                                    refine jv_istoreK (L2 := [some (.inr (.inr 94)), some (.inl c), some (.inl r), some (.inl a), some (.inl q), some (.inl 0), some (.inl x6_41_3), some (.inl 1), some (.inl 5), some (.inl 0), some (.inl 1)]) rfl rfl rfl ?_
                                    exfalso; omega
                                · first
                                  | (exfalso; omega)
                                  | skip
                                    refine jv_iload rfl rfl rfl ?_
                                    refine jv_iconst rfl rfl ?_
                                    refine jv_icmp_ne rfl rfl rfl (fun c55_11 => ?_) (fun c55_11 => ?_)
                                    · first
                                      | (exfalso; omega)
                                      | skip
                                        refine jv_iload rfl rfl rfl ?_
                                        refine jv_iconst rfl rfl ?_
                                        refine jv_icmp_ne rfl rfl rfl (fun c60_11 => ?_) (fun c60_11 => ?_)
                                        · first
                                          | (exfalso; omega)
                                          | skip
                                            refine jv_bipush rfl rfl ?_
                                            refine jv_istoreK (L2 := [some (.inr (.inr 94)), some (.inl c), some (.inl r), some (.inl a), some (.inl q), some (.inl 0), some (.inl x6_41_3), some (.inl 1), some (.inl 9), none, none]) rfl rfl rfl ?_
                                            refine jv_iconst rfl rfl ?_
                                            refine jv_istoreK (L2 := [some (.inr (.inr 94)), some (.inl c), some (.inl r), some (.inl a), some (.inl q), some (.inl 0), some (.inl x6_41_3), some (.inl 1), some (.inl 9), some (.inl 0), none]) rfl rfl rfl ?_
                                            refine jv_iload rfl rfl rfl ?_
                                            refine jv_istoreK (L2 := [some (.inr (.inr 94)), some (.inl c), some (.inl r), some (.inl a), some (.inl q), some (.inl 0), some (.inl x6_41_3), some (.inl 1), some (.inl 9), some (.inl 0), some (.inl 1)]) rfl rfl rfl ?_
                                            exfalso; omega
                                        · first
                                          | (exfalso; omega)
                                          | skip
                                            refine jv_bipush rfl rfl ?_
                                            refine jv_goto rfl rfl ?_
                                            refine jv_istoreK (L2 := [some (.inr (.inr 94)), some (.inl c), some (.inl r), some (.inl a), some (.inl q), some (.inl 0), some (.inl x6_41_3), some (.inl 1), some (.inl 29), none, none]) rfl rfl rfl ?_
                                            refine jv_iconst rfl rfl ?_
                                            refine jv_istoreK (L2 := [some (.inr (.inr 94)), some (.inl c), some (.inl r), some (.inl a), some (.inl q), some (.inl 0), some (.inl x6_41_3), some (.inl 1), some (.inl 29), some (.inl 0), none]) rfl rfl rfl ?_
                                            refine jv_iload rfl rfl rfl ?_
                                            refine jv_istoreK (L2 := [some (.inr (.inr 94)), some (.inl c), some (.inl r), some (.inl a), some (.inl q), some (.inl 0), some (.inl x6_41_3), some (.inl 1), some (.inl 29), some (.inl 0), some (.inl 1)]) rfl rfl rfl ?_
                                            exfalso; omega
                                    · first
                                      | (exfalso; omega)
                                      | skip
                                        refine jv_iconst rfl rfl ?_
                                        refine jv_goto rfl rfl ?_
                                        refine jv_istoreK (L2 := [some (.inr (.inr 94)), some (.inl c), some (.inl r), some (.inl a), some (.inl q), some (.inl 0), some (.inl x6_41_3), some (.inl 1), some (.inl 5), none, none]) rfl rfl rfl ?_
                                        refine jv_iconst rfl rfl ?_
                                        refine jv_istoreK (L2 := [some (.inr (.inr 94)), some (.inl c), some (.inl r), some (.inl a), some (.inl q), some (.inl 0), some (.inl x6_41_3), some (.inl 1), some (.inl 5), some (.inl 0), none]) rfl rfl rfl ?_
                                        refine jv_iload rfl rfl rfl ?_
                                        refine jv_istoreK (L2 := [some (.inr (.inr 94)), some (.inl c), some (.inl r), some (.inl a), some (.inl q), some (.inl 0), some (.inl x6_41_3), some (.inl 1), some (.inl 5), some (.inl 0), some (.inl 1)]) rfl rfl rfl ?_
                                        exfalso; omega
                · first
                  | (exfalso; omega)
                  | skip
                    show jV _ _ jm_p_X10_fits _ 19 [some (.inr (.inr 94)), some (.inl c), some (.inl r), some (.inl a), some (.inl q), none, none, none, none, none, none] [.inl (-1000012)] ν18_1
                    refine jv_istoreK (L2 := [some (.inr (.inr 94)), some (.inl c), some (.inl r), some (.inl a), some (.inl q), some (.inl (-1000012)), none, none, none, none, none]) rfl rfl rfl ?_
                    refine jv_iload rfl rfl rfl ?_
                    refine jv_if_eqF rfl rfl (by decide) ?_
                    refine jv_iload rfl rfl rfl ?_
                    refine jv_ireturn rfl (Or.inl rfl) ?_
                    exact ⟨jv_one (by omega), by exfalso; omega⟩
            · first
              | (exfalso; omega)
              | skip
                show jV _ _ jm_p_X10_fits _ 12 [some (.inr (.inr 94)), some (.inl c), some (.inl r), some (.inl a), some (.inl q), none, none, none, none, none, none] [.inl 0] μ
                refine jv_if_neF rfl rfl (by decide) ?_
                refine jv_ldc rfl rfl ?_
                refine jv_ireturn rfl (Or.inl rfl) ?_
                exact ⟨jv_one (by omega), hI⟩
        · first
          | (exfalso; omega)
          | skip
            show jV _ _ jm_p_X10_fits _ 6 [some (.inr (.inr 94)), some (.inl c), some (.inl r), some (.inl a), some (.inl q), none, none, none, none, none, none] [.inl 0] μ
            refine jv_if_eqT rfl rfl (by decide) ?_
            refine jv_ldc rfl rfl ?_
            refine jv_ireturn rfl (Or.inl rfl) ?_
            exact ⟨jv_one (by omega), hI⟩
    · first
      | (exfalso; omega)
      | skip
        show jV _ _ jm_p_X10_fits _ 3 [some (.inr (.inr 94)), some (.inl c), some (.inl r), some (.inl a), some (.inl q), none, none, none, none, none, none] [.inl 0] μ
        refine jv_if_eqT rfl rfl (by decide) ?_
        refine jv_ldc rfl rfl ?_
        refine jv_ireturn rfl (Or.inl rfl) ?_
        exact ⟨jv_one (by omega), hI⟩
  · show jV _ _ jm_p_X9_fits _ 3 [some (.inr (.inr 0)), some (.inl c), some (.inl r), some (.inl a), some (.inl q), none] [.inl 0] μ
    refine jv_if_neF rfl rfl (by decide) ?_
    refine jv_iload_n rfl rfl rfl ?_
    refine jv_callS1 rfl rfl rfl (Nat.le_of_ble_eq_true rfl) (cl_noRow (fun b5 => ?_) (fun b5 => ?_))
    · show jV _ _ jm_p_X9_fits _ 6 [some (.inr (.inr 0)), some (.inl c), some (.inl r), some (.inl a), some (.inl q), none] [.inl 1] μ
      refine jv_if_neT rfl rfl (by decide) ?_
      refine jv_ldc rfl rfl ?_
      refine jv_ireturn rfl (Or.inl rfl) ?_
      refine ⟨_, rfl, ?_⟩
      have fc : jf μ μ := jf_id μ
      have hUμ : jU μ (μ 95) := jU_jf fc
      have q94μ : μ 94 1 = μ 94 1 := by rw [fc 94 (by omega)]
      refine jv_enter (d := 199) jm_p_X10_fits [some (.inr (.inr 94)), some (.inl c), some (.inl r), some (.inl a), some (.inl q), none, none, none, none, none, none] rfl rfl rfl (Nat.le_of_ble_eq_true rfl) rfl rfl ?_
      refine jv_aload_n rfl rfl rfl (by decide) ?_
      refine jv_iload_n rfl rfl rfl ?_
      refine jv_callV1 rfl rfl rfl rfl ⟨by decide, rfl⟩ (Nat.le_of_ble_eq_true rfl) (mo_isComer (by omega) (fun b2 => ?_) (fun b2 => ?_))
      · first
        | (exfalso; omega)
        | skip
          show jV _ _ jm_p_X10_fits _ 3 [some (.inr (.inr 94)), some (.inl c), some (.inl r), some (.inl a), some (.inl q), none, none, none, none, none, none] [.inl 1] μ
          refine jv_if_eqF rfl rfl (by decide) ?_
          refine jv_iload_n rfl rfl rfl ?_
          refine jv_callS1 rfl rfl rfl (Nat.le_of_ble_eq_true rfl) (mo_isRow (fun b5 => ?_) (fun b5 => ?_))
          · first
            | (exfalso; omega)
            | skip
              show jV _ _ jm_p_X10_fits _ 6 [some (.inr (.inr 94)), some (.inl c), some (.inl r), some (.inl a), some (.inl q), none, none, none, none, none, none] [.inl 1] μ
              refine jv_if_eqF rfl rfl (by decide) ?_
              refine jv_iload rfl rfl rfl ?_
              refine jv_i2l rfl rfl ?_
              refine jv_lconst rfl rfl ?_
              refine jv_ldc2_w rfl rfl ?_
              refine jv_callS3 rfl rfl rfl (Nat.le_of_ble_eq_true rfl) (mo_in (fun b11 => ?_) (fun b11 => ?_))
              · first
                | (exfalso; omega)
                | skip
                  show jV _ _ jm_p_X10_fits _ 12 [some (.inr (.inr 94)), some (.inl c), some (.inl r), some (.inl a), some (.inl q), none, none, none, none, none, none] [.inl 1] μ
                  refine jv_if_neT rfl rfl (by decide) ?_
                  refine jv_aload_n rfl rfl rfl (by decide) ?_
                  refine jv_iload_n rfl rfl rfl ?_
                  refine jv_iload_n rfl rfl rfl ?_
                  refine jv_callV2 rfl rfl rfl rfl ⟨by decide, rfl⟩ (Nat.le_of_ble_eq_true rfl) (mo_noItems (by omega) (by omega) (by omega) (by omega) (fun h18_0 ν18 eν18 => ?_) (fun h18_0 h18_1 => ?_) (fun h18_0 h18_1 ν18_1 eν18_1 => ?_))
                  · first
                    | (exfalso; omega)
                    | skip
                      show jV _ _ jm_p_X10_fits _ 19 [some (.inr (.inr 94)), some (.inl c), some (.inl r), some (.inl a), some (.inl q), none, none, none, none, none, none] [.inl (-1000011)] ν18
                      refine jv_istoreK (L2 := [some (.inr (.inr 94)), some (.inl c), some (.inl r), some (.inl a), some (.inl q), some (.inl (-1000011)), none, none, none, none, none]) rfl rfl rfl ?_
                      refine jv_iload rfl rfl rfl ?_
                      refine jv_if_eqF rfl rfl (by decide) ?_
                      refine jv_iload rfl rfl rfl ?_
                      refine jv_ireturn rfl (Or.inl rfl) ?_
                      exact ⟨jv_one (by omega), by exfalso; omega⟩
                  · first
                    | (exfalso; omega)
                    | skip
                      show jV _ _ jm_p_X10_fits _ 19 [some (.inr (.inr 94)), some (.inl c), some (.inl r), some (.inl a), some (.inl q), none, none, none, none, none, none] [.inl 0] μ
                      refine jv_istoreK (L2 := [some (.inr (.inr 94)), some (.inl c), some (.inl r), some (.inl a), some (.inl q), some (.inl 0), none, none, none, none, none]) rfl rfl rfl ?_
                      refine jv_iload rfl rfl rfl ?_
                      refine jv_if_eqT rfl rfl (by decide) ?_
                      refine jv_iload rfl rfl rfl ?_
                      refine jv_if_ne rfl rfl rfl (fun c25 => ?_) (fun c25 => ?_)
                      · first
                        | (exfalso; omega)
                        | skip
                          refine jv_iload rfl rfl rfl ?_
                          refine jv_iconst rfl rfl ?_
                          refine jv_icmp_ne rfl rfl rfl (fun c30 => ?_) (fun c30 => ?_)
                          · first
                            | (exfalso; omega)
                            | skip
                              refine jv_iload rfl rfl rfl ?_
                              refine jv_iconst rfl rfl ?_
                              refine jv_icmp_ne rfl rfl rfl (fun c35 => ?_) (fun c35 => ?_)
                              · first
                                | (exfalso; omega)
                                | skip
                                  refine jv_bipush rfl rfl ?_
                                  refine jv_iload_n rfl rfl rfl ?_
                                  refine jv_iadd rfl rfl ⟨by omega, by omega⟩ ?_
                                  refine jv_istore (fun x => [some (.inr (.inr 94)), some (.inl c), some (.inl r), some (.inl a), some (.inl q), some (.inl 0), some (.inl x), none, none, none, none]) rfl rfl (fun _ => rfl) (fun x6_41 ex6_41 => ?_)
                                  refine jv_iload rfl rfl rfl ?_
                                  refine jv_if_eq rfl rfl rfl (fun c43 => ?_) (fun c43 => ?_)
                                  · first
                                    | (exfalso; omega)
                                    | skip
                                      refine jv_iconst rfl rfl ?_
                                      refine jv_goto rfl rfl ?_
                                      refine jv_istoreK (L2 := [some (.inr (.inr 94)), some (.inl c), some (.inl r), some (.inl a), some (.inl q), some (.inl 0), some (.inl x6_41), some (.inl 1), none, none, none]) rfl rfl rfl ?_
                                      refine jv_iload rfl rfl rfl ?_
                                      refine jv_if_eq rfl rfl rfl (fun c52 => ?_) (fun c52 => ?_)
                                      · first
                                        | (exfalso; omega)
                                        | skip
                                          refine jv_iconst rfl rfl ?_
                                          refine jv_goto rfl rfl ?_
                                          refine jv_istoreK (L2 := [some (.inr (.inr 94)), some (.inl c), some (.inl r), some (.inl a), some (.inl q), some (.inl 0), some (.inl x6_41), some (.inl 1), some (.inl 5), none, none]) rfl rfl rfl ?_
                                          refine jv_iconst rfl rfl ?_
                                          refine jv_istoreK (L2 := [some (.inr (.inr 94)), some (.inl c), some (.inl r), some (.inl a), some (.inl q), some (.inl 0), some (.inl x6_41), some (.inl 1), some (.inl 5), some (.inl 0), none]) rfl rfl rfl ?_
                                          refine jv_iload rfl rfl rfl ?_
                                          refine jv_istoreK (L2 := [some (.inr (.inr 94)), some (.inl c), some (.inl r), some (.inl a), some (.inl q), some (.inl 0), some (.inl x6_41), some (.inl 1), some (.inl 5), some (.inl 0), some (.inl 1)]) rfl rfl rfl ?_
                                          exfalso; omega
                                      · first
                                        | (exfalso; omega)
                                        | skip
                                          refine jv_iload rfl rfl rfl ?_
                                          refine jv_iconst rfl rfl ?_
                                          refine jv_icmp_ne rfl rfl rfl (fun c55 => ?_) (fun c55 => ?_)
                                          · first
                                            | (exfalso; omega)
                                            | skip
                                              refine jv_iload rfl rfl rfl ?_
                                              refine jv_iconst rfl rfl ?_
                                              refine jv_icmp_ne rfl rfl rfl (fun c60 => ?_) (fun c60 => ?_)
                                              · first
                                                | (exfalso; omega)
                                                | skip
                                                  refine jv_bipush rfl rfl ?_
                                                  refine jv_istoreK (L2 := [some (.inr (.inr 94)), some (.inl c), some (.inl r), some (.inl a), some (.inl q), some (.inl 0), some (.inl x6_41), some (.inl 1), some (.inl 9), none, none]) rfl rfl rfl ?_
                                                  refine jv_iconst rfl rfl ?_
                                                  refine jv_istoreK (L2 := [some (.inr (.inr 94)), some (.inl c), some (.inl r), some (.inl a), some (.inl q), some (.inl 0), some (.inl x6_41), some (.inl 1), some (.inl 9), some (.inl 0), none]) rfl rfl rfl ?_
                                                  refine jv_iload rfl rfl rfl ?_
                                                  refine jv_istoreK (L2 := [some (.inr (.inr 94)), some (.inl c), some (.inl r), some (.inl a), some (.inl q), some (.inl 0), some (.inl x6_41), some (.inl 1), some (.inl 9), some (.inl 0), some (.inl 1)]) rfl rfl rfl ?_
                                                  exfalso; omega
                                              · first
                                                | (exfalso; omega)
                                                | skip
                                                  refine jv_bipush rfl rfl ?_
                                                  refine jv_goto rfl rfl ?_
                                                  refine jv_istoreK (L2 := [some (.inr (.inr 94)), some (.inl c), some (.inl r), some (.inl a), some (.inl q), some (.inl 0), some (.inl x6_41), some (.inl 1), some (.inl 29), none, none]) rfl rfl rfl ?_
                                                  refine jv_iconst rfl rfl ?_
                                                  refine jv_istoreK (L2 := [some (.inr (.inr 94)), some (.inl c), some (.inl r), some (.inl a), some (.inl q), some (.inl 0), some (.inl x6_41), some (.inl 1), some (.inl 29), some (.inl 0), none]) rfl rfl rfl ?_
                                                  refine jv_iload rfl rfl rfl ?_
                                                  refine jv_istoreK (L2 := [some (.inr (.inr 94)), some (.inl c), some (.inl r), some (.inl a), some (.inl q), some (.inl 0), some (.inl x6_41), some (.inl 1), some (.inl 29), some (.inl 0), some (.inl 1)]) rfl rfl rfl ?_
                                                  exfalso; omega
                                          · first
                                            | (exfalso; omega)
                                            | skip
                                              refine jv_iconst rfl rfl ?_
                                              refine jv_goto rfl rfl ?_
                                              refine jv_istoreK (L2 := [some (.inr (.inr 94)), some (.inl c), some (.inl r), some (.inl a), some (.inl q), some (.inl 0), some (.inl x6_41), some (.inl 1), some (.inl 5), none, none]) rfl rfl rfl ?_
                                              refine jv_iconst rfl rfl ?_
                                              refine jv_istoreK (L2 := [some (.inr (.inr 94)), some (.inl c), some (.inl r), some (.inl a), some (.inl q), some (.inl 0), some (.inl x6_41), some (.inl 1), some (.inl 5), some (.inl 0), none]) rfl rfl rfl ?_
                                              refine jv_iload rfl rfl rfl ?_
                                              refine jv_istoreK (L2 := [some (.inr (.inr 94)), some (.inl c), some (.inl r), some (.inl a), some (.inl q), some (.inl 0), some (.inl x6_41), some (.inl 1), some (.inl 5), some (.inl 0), some (.inl 1)]) rfl rfl rfl ?_
                                              exfalso; omega
                                  · first
                                    | (exfalso; omega)
                                    | skip
                                      refine jv_iload rfl rfl rfl ?_
                                      refine jv_iconst rfl rfl ?_
                                      refine jv_icmp_ne rfl rfl rfl (fun c46 => ?_) (fun c46 => ?_)
                                      · first
                                        | (exfalso; omega)
                                        | skip
                                          refine jv_iconst rfl rfl ?_
                                          refine jv_istoreK (L2 := [some (.inr (.inr 94)), some (.inl c), some (.inl r), some (.inl a), some (.inl q), some (.inl 0), some (.inl x6_41), some (.inl 0), none, none, none]) rfl rfl rfl ?_
                                          refine jv_iload rfl rfl rfl ?_
                                          refine jv_if_eq rfl rfl rfl (fun c52_1 => ?_) (fun c52_1 => ?_)
                                          · first
                                            | (exfalso; omega)
                                            | skip
                                              refine jv_iconst rfl rfl ?_
                                              refine jv_goto rfl rfl ?_
                                              refine jv_istoreK (L2 := [some (.inr (.inr 94)), some (.inl c), some (.inl r), some (.inl a), some (.inl q), some (.inl 0), some (.inl x6_41), some (.inl 0), some (.inl 5), none, none]) rfl rfl rfl ?_
                                              refine jv_iconst rfl rfl ?_
                                              refine jv_istoreK (L2 := [some (.inr (.inr 94)), some (.inl c), some (.inl r), some (.inl a), some (.inl q), some (.inl 0), some (.inl x6_41), some (.inl 0), some (.inl 5), some (.inl 0), none]) rfl rfl rfl ?_
                                              refine jv_iload rfl rfl rfl ?_
                                              refine jv_istoreK (L2 := [some (.inr (.inr 94)), some (.inl c), some (.inl r), some (.inl a), some (.inl q), some (.inl 0), some (.inl x6_41), some (.inl 0), some (.inl 5), some (.inl 0), some (.inl 0)]) rfl rfl rfl ?_
                                              exfalso; omega
                                          · first
                                            | (exfalso; omega)
                                            | skip
                                              refine jv_iload rfl rfl rfl ?_
                                              refine jv_iconst rfl rfl ?_
                                              refine jv_icmp_ne rfl rfl rfl (fun c55_1 => ?_) (fun c55_1 => ?_)
                                              · first
                                                | (exfalso; omega)
                                                | skip
                                                  refine jv_iload rfl rfl rfl ?_
                                                  refine jv_iconst rfl rfl ?_
                                                  refine jv_icmp_ne rfl rfl rfl (fun c60_1 => ?_) (fun c60_1 => ?_)
                                                  · first
                                                    | (exfalso; omega)
                                                    | skip
                                                      refine jv_bipush rfl rfl ?_
                                                      refine jv_istoreK (L2 := [some (.inr (.inr 94)), some (.inl c), some (.inl r), some (.inl a), some (.inl q), some (.inl 0), some (.inl x6_41), some (.inl 0), some (.inl 9), none, none]) rfl rfl rfl ?_
                                                      refine jv_iconst rfl rfl ?_
                                                      refine jv_istoreK (L2 := [some (.inr (.inr 94)), some (.inl c), some (.inl r), some (.inl a), some (.inl q), some (.inl 0), some (.inl x6_41), some (.inl 0), some (.inl 9), some (.inl 0), none]) rfl rfl rfl ?_
                                                      refine jv_iload rfl rfl rfl ?_
                                                      refine jv_istoreK (L2 := [some (.inr (.inr 94)), some (.inl c), some (.inl r), some (.inl a), some (.inl q), some (.inl 0), some (.inl x6_41), some (.inl 0), some (.inl 9), some (.inl 0), some (.inl 0)]) rfl rfl rfl ?_
                                                      exfalso; omega
                                                  · first
                                                    | (exfalso; omega)
                                                    | skip
                                                      refine jv_bipush rfl rfl ?_
                                                      refine jv_goto rfl rfl ?_
                                                      refine jv_istoreK (L2 := [some (.inr (.inr 94)), some (.inl c), some (.inl r), some (.inl a), some (.inl q), some (.inl 0), some (.inl x6_41), some (.inl 0), some (.inl 29), none, none]) rfl rfl rfl ?_
                                                      refine jv_iconst rfl rfl ?_
                                                      refine jv_istoreK (L2 := [some (.inr (.inr 94)), some (.inl c), some (.inl r), some (.inl a), some (.inl q), some (.inl 0), some (.inl x6_41), some (.inl 0), some (.inl 29), some (.inl 0), none]) rfl rfl rfl ?_
                                                      refine jv_iload rfl rfl rfl ?_
                                                      refine jv_istoreK (L2 := [some (.inr (.inr 94)), some (.inl c), some (.inl r), some (.inl a), some (.inl q), some (.inl 0), some (.inl x6_41), some (.inl 0), some (.inl 29), some (.inl 0), some (.inl 0)]) rfl rfl rfl ?_
                                                      exfalso; omega
                                              · first
                                                | (exfalso; omega)
                                                | skip
                                                  refine jv_iconst rfl rfl ?_
                                                  refine jv_goto rfl rfl ?_
                                                  refine jv_istoreK (L2 := [some (.inr (.inr 94)), some (.inl c), some (.inl r), some (.inl a), some (.inl q), some (.inl 0), some (.inl x6_41), some (.inl 0), some (.inl 5), none, none]) rfl rfl rfl ?_
                                                  refine jv_iconst rfl rfl ?_
                                                  refine jv_istoreK (L2 := [some (.inr (.inr 94)), some (.inl c), some (.inl r), some (.inl a), some (.inl q), some (.inl 0), some (.inl x6_41), some (.inl 0), some (.inl 5), some (.inl 0), none]) rfl rfl rfl ?_
                                                  refine jv_iload rfl rfl rfl ?_
                                                  refine jv_istoreK (L2 := [some (.inr (.inr 94)), some (.inl c), some (.inl r), some (.inl a), some (.inl q), some (.inl 0), some (.inl x6_41), some (.inl 0), some (.inl 5), some (.inl 0), some (.inl 0)]) rfl rfl rfl ?_
                                                  exfalso; omega
                                      · first
                                        | (exfalso; omega)
                                        | skip
                                          refine jv_iconst rfl rfl ?_
                                          refine jv_goto rfl rfl ?_
                                          refine jv_istoreK (L2 := [some (.inr (.inr 94)), some (.inl c), some (.inl r), some (.inl a), some (.inl q), some (.inl 0), some (.inl x6_41), some (.inl 1), none, none, none]) rfl rfl rfl ?_
                                          refine jv_iload rfl rfl rfl ?_
                                          refine jv_if_eq rfl rfl rfl (fun c52_2 => ?_) (fun c52_2 => ?_)
                                          · first
                                            | (exfalso; omega)
                                            | skip
                                              refine jv_iconst rfl rfl ?_
                                              refine jv_goto rfl rfl ?_
                                              refine jv_istoreK (L2 := [some (.inr (.inr 94)), some (.inl c), some (.inl r), some (.inl a), some (.inl q), some (.inl 0), some (.inl x6_41), some (.inl 1), some (.inl 5), none, none]) rfl rfl rfl ?_
                                              refine jv_iconst rfl rfl ?_
                                              refine jv_istoreK (L2 := [some (.inr (.inr 94)), some (.inl c), some (.inl r), some (.inl a), some (.inl q), some (.inl 0), some (.inl x6_41), some (.inl 1), some (.inl 5), some (.inl 0), none]) rfl rfl rfl ?_
                                              refine jv_iload rfl rfl rfl ?_
                                              refine jv_istoreK (L2 := [some (.inr (.inr 94)), some (.inl c), some (.inl r), some (.inl a), some (.inl q), some (.inl 0), some (.inl x6_41), some (.inl 1), some (.inl 5), some (.inl 0), some (.inl 1)]) rfl rfl rfl ?_
                                              exfalso; omega
                                          · first
                                            | (exfalso; omega)
                                            | skip
                                              refine jv_iload rfl rfl rfl ?_
                                              refine jv_iconst rfl rfl ?_
                                              refine jv_icmp_ne rfl rfl rfl (fun c55_2 => ?_) (fun c55_2 => ?_)
                                              · first
                                                | (exfalso; omega)
                                                | skip
                                                  refine jv_iload rfl rfl rfl ?_
                                                  refine jv_iconst rfl rfl ?_
                                                  refine jv_icmp_ne rfl rfl rfl (fun c60_2 => ?_) (fun c60_2 => ?_)
                                                  · first
                                                    | (exfalso; omega)
                                                    | skip
                                                      refine jv_bipush rfl rfl ?_
                                                      refine jv_istoreK (L2 := [some (.inr (.inr 94)), some (.inl c), some (.inl r), some (.inl a), some (.inl q), some (.inl 0), some (.inl x6_41), some (.inl 1), some (.inl 9), none, none]) rfl rfl rfl ?_
                                                      refine jv_iconst rfl rfl ?_
                                                      refine jv_istoreK (L2 := [some (.inr (.inr 94)), some (.inl c), some (.inl r), some (.inl a), some (.inl q), some (.inl 0), some (.inl x6_41), some (.inl 1), some (.inl 9), some (.inl 0), none]) rfl rfl rfl ?_
                                                      refine jv_iload rfl rfl rfl ?_
                                                      refine jv_istoreK (L2 := [some (.inr (.inr 94)), some (.inl c), some (.inl r), some (.inl a), some (.inl q), some (.inl 0), some (.inl x6_41), some (.inl 1), some (.inl 9), some (.inl 0), some (.inl 1)]) rfl rfl rfl ?_
                                                      exfalso; omega
                                                  · first
                                                    | (exfalso; omega)
                                                    | skip
                                                      refine jv_bipush rfl rfl ?_
                                                      refine jv_goto rfl rfl ?_
                                                      refine jv_istoreK (L2 := [some (.inr (.inr 94)), some (.inl c), some (.inl r), some (.inl a), some (.inl q), some (.inl 0), some (.inl x6_41), some (.inl 1), some (.inl 29), none, none]) rfl rfl rfl ?_
                                                      refine jv_iconst rfl rfl ?_
                                                      refine jv_istoreK (L2 := [some (.inr (.inr 94)), some (.inl c), some (.inl r), some (.inl a), some (.inl q), some (.inl 0), some (.inl x6_41), some (.inl 1), some (.inl 29), some (.inl 0), none]) rfl rfl rfl ?_
                                                      refine jv_iload rfl rfl rfl ?_
                                                      refine jv_istoreK (L2 := [some (.inr (.inr 94)), some (.inl c), some (.inl r), some (.inl a), some (.inl q), some (.inl 0), some (.inl x6_41), some (.inl 1), some (.inl 29), some (.inl 0), some (.inl 1)]) rfl rfl rfl ?_
                                                      exfalso; omega
                                              · first
                                                | (exfalso; omega)
                                                | skip
                                                  refine jv_iconst rfl rfl ?_
                                                  refine jv_goto rfl rfl ?_
                                                  refine jv_istoreK (L2 := [some (.inr (.inr 94)), some (.inl c), some (.inl r), some (.inl a), some (.inl q), some (.inl 0), some (.inl x6_41), some (.inl 1), some (.inl 5), none, none]) rfl rfl rfl ?_
                                                  refine jv_iconst rfl rfl ?_
                                                  refine jv_istoreK (L2 := [some (.inr (.inr 94)), some (.inl c), some (.inl r), some (.inl a), some (.inl q), some (.inl 0), some (.inl x6_41), some (.inl 1), some (.inl 5), some (.inl 0), none]) rfl rfl rfl ?_
                                                  refine jv_iload rfl rfl rfl ?_
                                                  refine jv_istoreK (L2 := [some (.inr (.inr 94)), some (.inl c), some (.inl r), some (.inl a), some (.inl q), some (.inl 0), some (.inl x6_41), some (.inl 1), some (.inl 5), some (.inl 0), some (.inl 1)]) rfl rfl rfl ?_
                                                  exfalso; omega
                              · first
                                | (exfalso; omega)
                                | skip
                                  refine jv_bipush rfl rfl ?_
                                  refine jv_goto rfl rfl ?_
                                  refine jv_iload_n rfl rfl rfl ?_
                                  refine jv_iadd rfl rfl ⟨by omega, by omega⟩ ?_
                                  refine jv_istore (fun x => [some (.inr (.inr 94)), some (.inl c), some (.inl r), some (.inl a), some (.inl q), some (.inl 0), some (.inl x), none, none, none, none]) rfl rfl (fun _ => rfl) (fun x6_41_1 ex6_41_1 => ?_)
                                  refine jv_iload rfl rfl rfl ?_
                                  refine jv_if_eq rfl rfl rfl (fun c43_1 => ?_) (fun c43_1 => ?_)
                                  · first
                                    | (exfalso; omega)
                                    | skip
                                      refine jv_iconst rfl rfl ?_
                                      refine jv_goto rfl rfl ?_
                                      refine jv_istoreK (L2 := [some (.inr (.inr 94)), some (.inl c), some (.inl r), some (.inl a), some (.inl q), some (.inl 0), some (.inl x6_41_1), some (.inl 1), none, none, none]) rfl rfl rfl ?_
                                      refine jv_iload rfl rfl rfl ?_
                                      refine jv_if_eq rfl rfl rfl (fun c52_3 => ?_) (fun c52_3 => ?_)
                                      · first
                                        | (exfalso; omega)
                                        | skip
                                          refine jv_iconst rfl rfl ?_
                                          refine jv_goto rfl rfl ?_
                                          refine jv_istoreK (L2 := [some (.inr (.inr 94)), some (.inl c), some (.inl r), some (.inl a), some (.inl q), some (.inl 0), some (.inl x6_41_1), some (.inl 1), some (.inl 5), none, none]) rfl rfl rfl ?_
                                          refine jv_iconst rfl rfl ?_
                                          refine jv_istoreK (L2 := [some (.inr (.inr 94)), some (.inl c), some (.inl r), some (.inl a), some (.inl q), some (.inl 0), some (.inl x6_41_1), some (.inl 1), some (.inl 5), some (.inl 0), none]) rfl rfl rfl ?_
                                          refine jv_iload rfl rfl rfl ?_
                                          refine jv_istoreK (L2 := [some (.inr (.inr 94)), some (.inl c), some (.inl r), some (.inl a), some (.inl q), some (.inl 0), some (.inl x6_41_1), some (.inl 1), some (.inl 5), some (.inl 0), some (.inl 1)]) rfl rfl rfl ?_
                                          exfalso; omega
                                      · first
                                        | (exfalso; omega)
                                        | skip
                                          refine jv_iload rfl rfl rfl ?_
                                          refine jv_iconst rfl rfl ?_
                                          refine jv_icmp_ne rfl rfl rfl (fun c55_3 => ?_) (fun c55_3 => ?_)
                                          · first
                                            | (exfalso; omega)
                                            | skip
                                              refine jv_iload rfl rfl rfl ?_
                                              refine jv_iconst rfl rfl ?_
                                              refine jv_icmp_ne rfl rfl rfl (fun c60_3 => ?_) (fun c60_3 => ?_)
                                              · first
                                                | (exfalso; omega)
                                                | skip
                                                  refine jv_bipush rfl rfl ?_
                                                  refine jv_istoreK (L2 := [some (.inr (.inr 94)), some (.inl c), some (.inl r), some (.inl a), some (.inl q), some (.inl 0), some (.inl x6_41_1), some (.inl 1), some (.inl 9), none, none]) rfl rfl rfl ?_
                                                  refine jv_iconst rfl rfl ?_
                                                  refine jv_istoreK (L2 := [some (.inr (.inr 94)), some (.inl c), some (.inl r), some (.inl a), some (.inl q), some (.inl 0), some (.inl x6_41_1), some (.inl 1), some (.inl 9), some (.inl 0), none]) rfl rfl rfl ?_
                                                  refine jv_iload rfl rfl rfl ?_
                                                  refine jv_istoreK (L2 := [some (.inr (.inr 94)), some (.inl c), some (.inl r), some (.inl a), some (.inl q), some (.inl 0), some (.inl x6_41_1), some (.inl 1), some (.inl 9), some (.inl 0), some (.inl 1)]) rfl rfl rfl ?_
                                                  exfalso; omega
                                              · first
                                                | (exfalso; omega)
                                                | skip
                                                  refine jv_bipush rfl rfl ?_
                                                  refine jv_goto rfl rfl ?_
                                                  refine jv_istoreK (L2 := [some (.inr (.inr 94)), some (.inl c), some (.inl r), some (.inl a), some (.inl q), some (.inl 0), some (.inl x6_41_1), some (.inl 1), some (.inl 29), none, none]) rfl rfl rfl ?_
                                                  refine jv_iconst rfl rfl ?_
                                                  refine jv_istoreK (L2 := [some (.inr (.inr 94)), some (.inl c), some (.inl r), some (.inl a), some (.inl q), some (.inl 0), some (.inl x6_41_1), some (.inl 1), some (.inl 29), some (.inl 0), none]) rfl rfl rfl ?_
                                                  refine jv_iload rfl rfl rfl ?_
                                                  refine jv_istoreK (L2 := [some (.inr (.inr 94)), some (.inl c), some (.inl r), some (.inl a), some (.inl q), some (.inl 0), some (.inl x6_41_1), some (.inl 1), some (.inl 29), some (.inl 0), some (.inl 1)]) rfl rfl rfl ?_
                                                  exfalso; omega
                                          · first
                                            | (exfalso; omega)
                                            | skip
                                              refine jv_iconst rfl rfl ?_
                                              refine jv_goto rfl rfl ?_
                                              refine jv_istoreK (L2 := [some (.inr (.inr 94)), some (.inl c), some (.inl r), some (.inl a), some (.inl q), some (.inl 0), some (.inl x6_41_1), some (.inl 1), some (.inl 5), none, none]) rfl rfl rfl ?_
                                              refine jv_iconst rfl rfl ?_
                                              refine jv_istoreK (L2 := [some (.inr (.inr 94)), some (.inl c), some (.inl r), some (.inl a), some (.inl q), some (.inl 0), some (.inl x6_41_1), some (.inl 1), some (.inl 5), some (.inl 0), none]) rfl rfl rfl ?_
                                              refine jv_iload rfl rfl rfl ?_
                                              refine jv_istoreK (L2 := [some (.inr (.inr 94)), some (.inl c), some (.inl r), some (.inl a), some (.inl q), some (.inl 0), some (.inl x6_41_1), some (.inl 1), some (.inl 5), some (.inl 0), some (.inl 1)]) rfl rfl rfl ?_
                                              exfalso; omega
                                  · first
                                    | (exfalso; omega)
                                    | skip
                                      refine jv_iload rfl rfl rfl ?_
                                      refine jv_iconst rfl rfl ?_
                                      refine jv_icmp_ne rfl rfl rfl (fun c46_1 => ?_) (fun c46_1 => ?_)
                                      · first
                                        | (exfalso; omega)
                                        | skip
                                          refine jv_iconst rfl rfl ?_
                                          refine jv_istoreK (L2 := [some (.inr (.inr 94)), some (.inl c), some (.inl r), some (.inl a), some (.inl q), some (.inl 0), some (.inl x6_41_1), some (.inl 0), none, none, none]) rfl rfl rfl ?_
                                          refine jv_iload rfl rfl rfl ?_
                                          refine jv_if_eq rfl rfl rfl (fun c52_4 => ?_) (fun c52_4 => ?_)
                                          · first
                                            | (exfalso; omega)
                                            | skip
                                              refine jv_iconst rfl rfl ?_
                                              refine jv_goto rfl rfl ?_
                                              refine jv_istoreK (L2 := [some (.inr (.inr 94)), some (.inl c), some (.inl r), some (.inl a), some (.inl q), some (.inl 0), some (.inl x6_41_1), some (.inl 0), some (.inl 5), none, none]) rfl rfl rfl ?_
                                              refine jv_iconst rfl rfl ?_
                                              refine jv_istoreK (L2 := [some (.inr (.inr 94)), some (.inl c), some (.inl r), some (.inl a), some (.inl q), some (.inl 0), some (.inl x6_41_1), some (.inl 0), some (.inl 5), some (.inl 0), none]) rfl rfl rfl ?_
                                              refine jv_iload rfl rfl rfl ?_
                                              refine jv_istoreK (L2 := [some (.inr (.inr 94)), some (.inl c), some (.inl r), some (.inl a), some (.inl q), some (.inl 0), some (.inl x6_41_1), some (.inl 0), some (.inl 5), some (.inl 0), some (.inl 0)]) rfl rfl rfl ?_
                                              exfalso; omega
                                          · first
                                            | (exfalso; omega)
                                            | skip
                                              refine jv_iload rfl rfl rfl ?_
                                              refine jv_iconst rfl rfl ?_
                                              refine jv_icmp_ne rfl rfl rfl (fun c55_4 => ?_) (fun c55_4 => ?_)
                                              · first
                                                | (exfalso; omega)
                                                | skip
                                                  refine jv_iload rfl rfl rfl ?_
                                                  refine jv_iconst rfl rfl ?_
                                                  refine jv_icmp_ne rfl rfl rfl (fun c60_4 => ?_) (fun c60_4 => ?_)
                                                  · first
                                                    | (exfalso; omega)
                                                    | skip
                                                      refine jv_bipush rfl rfl ?_
                                                      refine jv_istoreK (L2 := [some (.inr (.inr 94)), some (.inl c), some (.inl r), some (.inl a), some (.inl q), some (.inl 0), some (.inl x6_41_1), some (.inl 0), some (.inl 9), none, none]) rfl rfl rfl ?_
                                                      refine jv_iconst rfl rfl ?_
                                                      refine jv_istoreK (L2 := [some (.inr (.inr 94)), some (.inl c), some (.inl r), some (.inl a), some (.inl q), some (.inl 0), some (.inl x6_41_1), some (.inl 0), some (.inl 9), some (.inl 0), none]) rfl rfl rfl ?_
                                                      refine jv_iload rfl rfl rfl ?_
                                                      refine jv_istoreK (L2 := [some (.inr (.inr 94)), some (.inl c), some (.inl r), some (.inl a), some (.inl q), some (.inl 0), some (.inl x6_41_1), some (.inl 0), some (.inl 9), some (.inl 0), some (.inl 0)]) rfl rfl rfl ?_
                                                      exfalso; omega
                                                  · first
                                                    | (exfalso; omega)
                                                    | skip
                                                      refine jv_bipush rfl rfl ?_
                                                      refine jv_goto rfl rfl ?_
                                                      refine jv_istoreK (L2 := [some (.inr (.inr 94)), some (.inl c), some (.inl r), some (.inl a), some (.inl q), some (.inl 0), some (.inl x6_41_1), some (.inl 0), some (.inl 29), none, none]) rfl rfl rfl ?_
                                                      refine jv_iconst rfl rfl ?_
                                                      refine jv_istoreK (L2 := [some (.inr (.inr 94)), some (.inl c), some (.inl r), some (.inl a), some (.inl q), some (.inl 0), some (.inl x6_41_1), some (.inl 0), some (.inl 29), some (.inl 0), none]) rfl rfl rfl ?_
                                                      refine jv_iload rfl rfl rfl ?_
                                                      refine jv_istoreK (L2 := [some (.inr (.inr 94)), some (.inl c), some (.inl r), some (.inl a), some (.inl q), some (.inl 0), some (.inl x6_41_1), some (.inl 0), some (.inl 29), some (.inl 0), some (.inl 0)]) rfl rfl rfl ?_
                                                      exfalso; omega
                                              · first
                                                | (exfalso; omega)
                                                | skip
                                                  refine jv_iconst rfl rfl ?_
                                                  refine jv_goto rfl rfl ?_
                                                  refine jv_istoreK (L2 := [some (.inr (.inr 94)), some (.inl c), some (.inl r), some (.inl a), some (.inl q), some (.inl 0), some (.inl x6_41_1), some (.inl 0), some (.inl 5), none, none]) rfl rfl rfl ?_
                                                  refine jv_iconst rfl rfl ?_
                                                  refine jv_istoreK (L2 := [some (.inr (.inr 94)), some (.inl c), some (.inl r), some (.inl a), some (.inl q), some (.inl 0), some (.inl x6_41_1), some (.inl 0), some (.inl 5), some (.inl 0), none]) rfl rfl rfl ?_
                                                  refine jv_iload rfl rfl rfl ?_
                                                  refine jv_istoreK (L2 := [some (.inr (.inr 94)), some (.inl c), some (.inl r), some (.inl a), some (.inl q), some (.inl 0), some (.inl x6_41_1), some (.inl 0), some (.inl 5), some (.inl 0), some (.inl 0)]) rfl rfl rfl ?_
                                                  exfalso; omega
                                      · first
                                        | (exfalso; omega)
                                        | skip
                                          refine jv_iconst rfl rfl ?_
                                          refine jv_goto rfl rfl ?_
                                          refine jv_istoreK (L2 := [some (.inr (.inr 94)), some (.inl c), some (.inl r), some (.inl a), some (.inl q), some (.inl 0), some (.inl x6_41_1), some (.inl 1), none, none, none]) rfl rfl rfl ?_
                                          refine jv_iload rfl rfl rfl ?_
                                          refine jv_if_eq rfl rfl rfl (fun c52_5 => ?_) (fun c52_5 => ?_)
                                          · first
                                            | (exfalso; omega)
                                            | skip
                                              refine jv_iconst rfl rfl ?_
                                              refine jv_goto rfl rfl ?_
                                              refine jv_istoreK (L2 := [some (.inr (.inr 94)), some (.inl c), some (.inl r), some (.inl a), some (.inl q), some (.inl 0), some (.inl x6_41_1), some (.inl 1), some (.inl 5), none, none]) rfl rfl rfl ?_
                                              refine jv_iconst rfl rfl ?_
                                              refine jv_istoreK (L2 := [some (.inr (.inr 94)), some (.inl c), some (.inl r), some (.inl a), some (.inl q), some (.inl 0), some (.inl x6_41_1), some (.inl 1), some (.inl 5), some (.inl 0), none]) rfl rfl rfl ?_
                                              refine jv_iload rfl rfl rfl ?_
                                              refine jv_istoreK (L2 := [some (.inr (.inr 94)), some (.inl c), some (.inl r), some (.inl a), some (.inl q), some (.inl 0), some (.inl x6_41_1), some (.inl 1), some (.inl 5), some (.inl 0), some (.inl 1)]) rfl rfl rfl ?_
                                              exfalso; omega
                                          · first
                                            | (exfalso; omega)
                                            | skip
                                              refine jv_iload rfl rfl rfl ?_
                                              refine jv_iconst rfl rfl ?_
                                              refine jv_icmp_ne rfl rfl rfl (fun c55_5 => ?_) (fun c55_5 => ?_)
                                              · first
                                                | (exfalso; omega)
                                                | skip
                                                  refine jv_iload rfl rfl rfl ?_
                                                  refine jv_iconst rfl rfl ?_
                                                  refine jv_icmp_ne rfl rfl rfl (fun c60_5 => ?_) (fun c60_5 => ?_)
                                                  · first
                                                    | (exfalso; omega)
                                                    | skip
                                                      refine jv_bipush rfl rfl ?_
                                                      refine jv_istoreK (L2 := [some (.inr (.inr 94)), some (.inl c), some (.inl r), some (.inl a), some (.inl q), some (.inl 0), some (.inl x6_41_1), some (.inl 1), some (.inl 9), none, none]) rfl rfl rfl ?_
                                                      refine jv_iconst rfl rfl ?_
                                                      refine jv_istoreK (L2 := [some (.inr (.inr 94)), some (.inl c), some (.inl r), some (.inl a), some (.inl q), some (.inl 0), some (.inl x6_41_1), some (.inl 1), some (.inl 9), some (.inl 0), none]) rfl rfl rfl ?_
                                                      refine jv_iload rfl rfl rfl ?_
                                                      refine jv_istoreK (L2 := [some (.inr (.inr 94)), some (.inl c), some (.inl r), some (.inl a), some (.inl q), some (.inl 0), some (.inl x6_41_1), some (.inl 1), some (.inl 9), some (.inl 0), some (.inl 1)]) rfl rfl rfl ?_
                                                      exfalso; omega
                                                  · first
                                                    | (exfalso; omega)
                                                    | skip
                                                      refine jv_bipush rfl rfl ?_
                                                      refine jv_goto rfl rfl ?_
                                                      refine jv_istoreK (L2 := [some (.inr (.inr 94)), some (.inl c), some (.inl r), some (.inl a), some (.inl q), some (.inl 0), some (.inl x6_41_1), some (.inl 1), some (.inl 29), none, none]) rfl rfl rfl ?_
                                                      refine jv_iconst rfl rfl ?_
                                                      refine jv_istoreK (L2 := [some (.inr (.inr 94)), some (.inl c), some (.inl r), some (.inl a), some (.inl q), some (.inl 0), some (.inl x6_41_1), some (.inl 1), some (.inl 29), some (.inl 0), none]) rfl rfl rfl ?_
                                                      refine jv_iload rfl rfl rfl ?_
                                                      refine jv_istoreK (L2 := [some (.inr (.inr 94)), some (.inl c), some (.inl r), some (.inl a), some (.inl q), some (.inl 0), some (.inl x6_41_1), some (.inl 1), some (.inl 29), some (.inl 0), some (.inl 1)]) rfl rfl rfl ?_
                                                      exfalso; omega
                                              · first
                                                | (exfalso; omega)
                                                | skip
                                                  refine jv_iconst rfl rfl ?_
                                                  refine jv_goto rfl rfl ?_
                                                  refine jv_istoreK (L2 := [some (.inr (.inr 94)), some (.inl c), some (.inl r), some (.inl a), some (.inl q), some (.inl 0), some (.inl x6_41_1), some (.inl 1), some (.inl 5), none, none]) rfl rfl rfl ?_
                                                  refine jv_iconst rfl rfl ?_
                                                  refine jv_istoreK (L2 := [some (.inr (.inr 94)), some (.inl c), some (.inl r), some (.inl a), some (.inl q), some (.inl 0), some (.inl x6_41_1), some (.inl 1), some (.inl 5), some (.inl 0), none]) rfl rfl rfl ?_
                                                  refine jv_iload rfl rfl rfl ?_
                                                  refine jv_istoreK (L2 := [some (.inr (.inr 94)), some (.inl c), some (.inl r), some (.inl a), some (.inl q), some (.inl 0), some (.inl x6_41_1), some (.inl 1), some (.inl 5), some (.inl 0), some (.inl 1)]) rfl rfl rfl ?_
                                                  exfalso; omega
                          · first
                            | (exfalso; omega)
                            | skip
                              refine jv_bipush rfl rfl ?_
                              refine jv_goto rfl rfl ?_
                              refine jv_iload_n rfl rfl rfl ?_
                              refine jv_iadd rfl rfl ⟨by omega, by omega⟩ ?_
                              refine jv_istore (fun x => [some (.inr (.inr 94)), some (.inl c), some (.inl r), some (.inl a), some (.inl q), some (.inl 0), some (.inl x), none, none, none, none]) rfl rfl (fun _ => rfl) (fun x6_41_2 ex6_41_2 => ?_)
                              refine jv_iload rfl rfl rfl ?_
                              refine jv_if_eq rfl rfl rfl (fun c43_2 => ?_) (fun c43_2 => ?_)
                              · first
                                | (exfalso; omega)
                                | skip
                                  refine jv_iconst rfl rfl ?_
                                  refine jv_goto rfl rfl ?_
                                  refine jv_istoreK (L2 := [some (.inr (.inr 94)), some (.inl c), some (.inl r), some (.inl a), some (.inl q), some (.inl 0), some (.inl x6_41_2), some (.inl 1), none, none, none]) rfl rfl rfl ?_
                                  refine jv_iload rfl rfl rfl ?_
                                  refine jv_if_eq rfl rfl rfl (fun c52_6 => ?_) (fun c52_6 => ?_)
                                  · first
                                    | (exfalso; omega)
                                    | skip
                                      refine jv_iconst rfl rfl ?_
                                      refine jv_goto rfl rfl ?_
                                      refine jv_istoreK (L2 := [some (.inr (.inr 94)), some (.inl c), some (.inl r), some (.inl a), some (.inl q), some (.inl 0), some (.inl x6_41_2), some (.inl 1), some (.inl 5), none, none]) rfl rfl rfl ?_
                                      refine jv_iconst rfl rfl ?_
                                      refine jv_istoreK (L2 := [some (.inr (.inr 94)), some (.inl c), some (.inl r), some (.inl a), some (.inl q), some (.inl 0), some (.inl x6_41_2), some (.inl 1), some (.inl 5), some (.inl 0), none]) rfl rfl rfl ?_
                                      refine jv_iload rfl rfl rfl ?_
                                      refine jv_istoreK (L2 := [some (.inr (.inr 94)), some (.inl c), some (.inl r), some (.inl a), some (.inl q), some (.inl 0), some (.inl x6_41_2), some (.inl 1), some (.inl 5), some (.inl 0), some (.inl 1)]) rfl rfl rfl ?_
                                      exfalso; omega
                                  · first
                                    | (exfalso; omega)
                                    | skip
                                      refine jv_iload rfl rfl rfl ?_
                                      refine jv_iconst rfl rfl ?_
                                      refine jv_icmp_ne rfl rfl rfl (fun c55_6 => ?_) (fun c55_6 => ?_)
                                      · first
                                        | (exfalso; omega)
                                        | skip
                                          refine jv_iload rfl rfl rfl ?_
                                          refine jv_iconst rfl rfl ?_
                                          refine jv_icmp_ne rfl rfl rfl (fun c60_6 => ?_) (fun c60_6 => ?_)
                                          · first
                                            | (exfalso; omega)
                                            | skip
                                              refine jv_bipush rfl rfl ?_
                                              refine jv_istoreK (L2 := [some (.inr (.inr 94)), some (.inl c), some (.inl r), some (.inl a), some (.inl q), some (.inl 0), some (.inl x6_41_2), some (.inl 1), some (.inl 9), none, none]) rfl rfl rfl ?_
                                              refine jv_iconst rfl rfl ?_
                                              refine jv_istoreK (L2 := [some (.inr (.inr 94)), some (.inl c), some (.inl r), some (.inl a), some (.inl q), some (.inl 0), some (.inl x6_41_2), some (.inl 1), some (.inl 9), some (.inl 0), none]) rfl rfl rfl ?_
                                              refine jv_iload rfl rfl rfl ?_
                                              refine jv_istoreK (L2 := [some (.inr (.inr 94)), some (.inl c), some (.inl r), some (.inl a), some (.inl q), some (.inl 0), some (.inl x6_41_2), some (.inl 1), some (.inl 9), some (.inl 0), some (.inl 1)]) rfl rfl rfl ?_
                                              exfalso; omega
                                          · first
                                            | (exfalso; omega)
                                            | skip
                                              refine jv_bipush rfl rfl ?_
                                              refine jv_goto rfl rfl ?_
                                              refine jv_istoreK (L2 := [some (.inr (.inr 94)), some (.inl c), some (.inl r), some (.inl a), some (.inl q), some (.inl 0), some (.inl x6_41_2), some (.inl 1), some (.inl 29), none, none]) rfl rfl rfl ?_
                                              refine jv_iconst rfl rfl ?_
                                              refine jv_istoreK (L2 := [some (.inr (.inr 94)), some (.inl c), some (.inl r), some (.inl a), some (.inl q), some (.inl 0), some (.inl x6_41_2), some (.inl 1), some (.inl 29), some (.inl 0), none]) rfl rfl rfl ?_
                                              refine jv_iload rfl rfl rfl ?_
                                              refine jv_istoreK (L2 := [some (.inr (.inr 94)), some (.inl c), some (.inl r), some (.inl a), some (.inl q), some (.inl 0), some (.inl x6_41_2), some (.inl 1), some (.inl 29), some (.inl 0), some (.inl 1)]) rfl rfl rfl ?_
                                              exfalso; omega
                                      · first
                                        | (exfalso; omega)
                                        | skip
                                          refine jv_iconst rfl rfl ?_
                                          refine jv_goto rfl rfl ?_
                                          refine jv_istoreK (L2 := [some (.inr (.inr 94)), some (.inl c), some (.inl r), some (.inl a), some (.inl q), some (.inl 0), some (.inl x6_41_2), some (.inl 1), some (.inl 5), none, none]) rfl rfl rfl ?_
                                          refine jv_iconst rfl rfl ?_
                                          refine jv_istoreK (L2 := [some (.inr (.inr 94)), some (.inl c), some (.inl r), some (.inl a), some (.inl q), some (.inl 0), some (.inl x6_41_2), some (.inl 1), some (.inl 5), some (.inl 0), none]) rfl rfl rfl ?_
                                          refine jv_iload rfl rfl rfl ?_
                                          refine jv_istoreK (L2 := [some (.inr (.inr 94)), some (.inl c), some (.inl r), some (.inl a), some (.inl q), some (.inl 0), some (.inl x6_41_2), some (.inl 1), some (.inl 5), some (.inl 0), some (.inl 1)]) rfl rfl rfl ?_
                                          exfalso; omega
                              · first
                                | (exfalso; omega)
                                | skip
                                  refine jv_iload rfl rfl rfl ?_
                                  refine jv_iconst rfl rfl ?_
                                  refine jv_icmp_ne rfl rfl rfl (fun c46_2 => ?_) (fun c46_2 => ?_)
                                  · first
                                    | (exfalso; omega)
                                    | skip
                                      refine jv_iconst rfl rfl ?_
                                      refine jv_istoreK (L2 := [some (.inr (.inr 94)), some (.inl c), some (.inl r), some (.inl a), some (.inl q), some (.inl 0), some (.inl x6_41_2), some (.inl 0), none, none, none]) rfl rfl rfl ?_
                                      refine jv_iload rfl rfl rfl ?_
                                      refine jv_if_eq rfl rfl rfl (fun c52_7 => ?_) (fun c52_7 => ?_)
                                      · first
                                        | (exfalso; omega)
                                        | skip
                                          refine jv_iconst rfl rfl ?_
                                          refine jv_goto rfl rfl ?_
                                          refine jv_istoreK (L2 := [some (.inr (.inr 94)), some (.inl c), some (.inl r), some (.inl a), some (.inl q), some (.inl 0), some (.inl x6_41_2), some (.inl 0), some (.inl 5), none, none]) rfl rfl rfl ?_
                                          refine jv_iconst rfl rfl ?_
                                          refine jv_istoreK (L2 := [some (.inr (.inr 94)), some (.inl c), some (.inl r), some (.inl a), some (.inl q), some (.inl 0), some (.inl x6_41_2), some (.inl 0), some (.inl 5), some (.inl 0), none]) rfl rfl rfl ?_
                                          refine jv_iload rfl rfl rfl ?_
                                          refine jv_istoreK (L2 := [some (.inr (.inr 94)), some (.inl c), some (.inl r), some (.inl a), some (.inl q), some (.inl 0), some (.inl x6_41_2), some (.inl 0), some (.inl 5), some (.inl 0), some (.inl 0)]) rfl rfl rfl ?_
                                          exfalso; omega
                                      · first
                                        | (exfalso; omega)
                                        | skip
                                          refine jv_iload rfl rfl rfl ?_
                                          refine jv_iconst rfl rfl ?_
                                          refine jv_icmp_ne rfl rfl rfl (fun c55_7 => ?_) (fun c55_7 => ?_)
                                          · first
                                            | (exfalso; omega)
                                            | skip
                                              refine jv_iload rfl rfl rfl ?_
                                              refine jv_iconst rfl rfl ?_
                                              refine jv_icmp_ne rfl rfl rfl (fun c60_7 => ?_) (fun c60_7 => ?_)
                                              · first
                                                | (exfalso; omega)
                                                | skip
                                                  refine jv_bipush rfl rfl ?_
                                                  refine jv_istoreK (L2 := [some (.inr (.inr 94)), some (.inl c), some (.inl r), some (.inl a), some (.inl q), some (.inl 0), some (.inl x6_41_2), some (.inl 0), some (.inl 9), none, none]) rfl rfl rfl ?_
                                                  refine jv_iconst rfl rfl ?_
                                                  refine jv_istoreK (L2 := [some (.inr (.inr 94)), some (.inl c), some (.inl r), some (.inl a), some (.inl q), some (.inl 0), some (.inl x6_41_2), some (.inl 0), some (.inl 9), some (.inl 0), none]) rfl rfl rfl ?_
                                                  refine jv_iload rfl rfl rfl ?_
                                                  refine jv_istoreK (L2 := [some (.inr (.inr 94)), some (.inl c), some (.inl r), some (.inl a), some (.inl q), some (.inl 0), some (.inl x6_41_2), some (.inl 0), some (.inl 9), some (.inl 0), some (.inl 0)]) rfl rfl rfl ?_
                                                  exfalso; omega
                                              · first
                                                | (exfalso; omega)
                                                | skip
                                                  refine jv_bipush rfl rfl ?_
                                                  refine jv_goto rfl rfl ?_
                                                  refine jv_istoreK (L2 := [some (.inr (.inr 94)), some (.inl c), some (.inl r), some (.inl a), some (.inl q), some (.inl 0), some (.inl x6_41_2), some (.inl 0), some (.inl 29), none, none]) rfl rfl rfl ?_
                                                  refine jv_iconst rfl rfl ?_
                                                  refine jv_istoreK (L2 := [some (.inr (.inr 94)), some (.inl c), some (.inl r), some (.inl a), some (.inl q), some (.inl 0), some (.inl x6_41_2), some (.inl 0), some (.inl 29), some (.inl 0), none]) rfl rfl rfl ?_
                                                  refine jv_iload rfl rfl rfl ?_
                                                  refine jv_istoreK (L2 := [some (.inr (.inr 94)), some (.inl c), some (.inl r), some (.inl a), some (.inl q), some (.inl 0), some (.inl x6_41_2), some (.inl 0), some (.inl 29), some (.inl 0), some (.inl 0)]) rfl rfl rfl ?_
                                                  exfalso; omega
                                          · first
                                            | (exfalso; omega)
                                            | skip
                                              refine jv_iconst rfl rfl ?_
                                              refine jv_goto rfl rfl ?_
                                              refine jv_istoreK (L2 := [some (.inr (.inr 94)), some (.inl c), some (.inl r), some (.inl a), some (.inl q), some (.inl 0), some (.inl x6_41_2), some (.inl 0), some (.inl 5), none, none]) rfl rfl rfl ?_
                                              refine jv_iconst rfl rfl ?_
                                              refine jv_istoreK (L2 := [some (.inr (.inr 94)), some (.inl c), some (.inl r), some (.inl a), some (.inl q), some (.inl 0), some (.inl x6_41_2), some (.inl 0), some (.inl 5), some (.inl 0), none]) rfl rfl rfl ?_
                                              refine jv_iload rfl rfl rfl ?_
                                              refine jv_istoreK (L2 := [some (.inr (.inr 94)), some (.inl c), some (.inl r), some (.inl a), some (.inl q), some (.inl 0), some (.inl x6_41_2), some (.inl 0), some (.inl 5), some (.inl 0), some (.inl 0)]) rfl rfl rfl ?_
                                              exfalso; omega
                                  · first
                                    | (exfalso; omega)
                                    | skip
                                      refine jv_iconst rfl rfl ?_
                                      refine jv_goto rfl rfl ?_
                                      refine jv_istoreK (L2 := [some (.inr (.inr 94)), some (.inl c), some (.inl r), some (.inl a), some (.inl q), some (.inl 0), some (.inl x6_41_2), some (.inl 1), none, none, none]) rfl rfl rfl ?_
                                      refine jv_iload rfl rfl rfl ?_
                                      refine jv_if_eq rfl rfl rfl (fun c52_8 => ?_) (fun c52_8 => ?_)
                                      · first
                                        | (exfalso; omega)
                                        | skip
                                          refine jv_iconst rfl rfl ?_
                                          refine jv_goto rfl rfl ?_
                                          refine jv_istoreK (L2 := [some (.inr (.inr 94)), some (.inl c), some (.inl r), some (.inl a), some (.inl q), some (.inl 0), some (.inl x6_41_2), some (.inl 1), some (.inl 5), none, none]) rfl rfl rfl ?_
                                          refine jv_iconst rfl rfl ?_
                                          refine jv_istoreK (L2 := [some (.inr (.inr 94)), some (.inl c), some (.inl r), some (.inl a), some (.inl q), some (.inl 0), some (.inl x6_41_2), some (.inl 1), some (.inl 5), some (.inl 0), none]) rfl rfl rfl ?_
                                          refine jv_iload rfl rfl rfl ?_
                                          refine jv_istoreK (L2 := [some (.inr (.inr 94)), some (.inl c), some (.inl r), some (.inl a), some (.inl q), some (.inl 0), some (.inl x6_41_2), some (.inl 1), some (.inl 5), some (.inl 0), some (.inl 1)]) rfl rfl rfl ?_
                                          exfalso; omega
                                      · first
                                        | (exfalso; omega)
                                        | skip
                                          refine jv_iload rfl rfl rfl ?_
                                          refine jv_iconst rfl rfl ?_
                                          refine jv_icmp_ne rfl rfl rfl (fun c55_8 => ?_) (fun c55_8 => ?_)
                                          · first
                                            | (exfalso; omega)
                                            | skip
                                              refine jv_iload rfl rfl rfl ?_
                                              refine jv_iconst rfl rfl ?_
                                              refine jv_icmp_ne rfl rfl rfl (fun c60_8 => ?_) (fun c60_8 => ?_)
                                              · first
                                                | (exfalso; omega)
                                                | skip
                                                  refine jv_bipush rfl rfl ?_
                                                  refine jv_istoreK (L2 := [some (.inr (.inr 94)), some (.inl c), some (.inl r), some (.inl a), some (.inl q), some (.inl 0), some (.inl x6_41_2), some (.inl 1), some (.inl 9), none, none]) rfl rfl rfl ?_
                                                  refine jv_iconst rfl rfl ?_
                                                  refine jv_istoreK (L2 := [some (.inr (.inr 94)), some (.inl c), some (.inl r), some (.inl a), some (.inl q), some (.inl 0), some (.inl x6_41_2), some (.inl 1), some (.inl 9), some (.inl 0), none]) rfl rfl rfl ?_
                                                  refine jv_iload rfl rfl rfl ?_
                                                  refine jv_istoreK (L2 := [some (.inr (.inr 94)), some (.inl c), some (.inl r), some (.inl a), some (.inl q), some (.inl 0), some (.inl x6_41_2), some (.inl 1), some (.inl 9), some (.inl 0), some (.inl 1)]) rfl rfl rfl ?_
                                                  exfalso; omega
                                              · first
                                                | (exfalso; omega)
                                                | skip
                                                  refine jv_bipush rfl rfl ?_
                                                  refine jv_goto rfl rfl ?_
                                                  refine jv_istoreK (L2 := [some (.inr (.inr 94)), some (.inl c), some (.inl r), some (.inl a), some (.inl q), some (.inl 0), some (.inl x6_41_2), some (.inl 1), some (.inl 29), none, none]) rfl rfl rfl ?_
                                                  refine jv_iconst rfl rfl ?_
                                                  refine jv_istoreK (L2 := [some (.inr (.inr 94)), some (.inl c), some (.inl r), some (.inl a), some (.inl q), some (.inl 0), some (.inl x6_41_2), some (.inl 1), some (.inl 29), some (.inl 0), none]) rfl rfl rfl ?_
                                                  refine jv_iload rfl rfl rfl ?_
                                                  refine jv_istoreK (L2 := [some (.inr (.inr 94)), some (.inl c), some (.inl r), some (.inl a), some (.inl q), some (.inl 0), some (.inl x6_41_2), some (.inl 1), some (.inl 29), some (.inl 0), some (.inl 1)]) rfl rfl rfl ?_
                                                  exfalso; omega
                                          · first
                                            | (exfalso; omega)
                                            | skip
                                              refine jv_iconst rfl rfl ?_
                                              refine jv_goto rfl rfl ?_
                                              refine jv_istoreK (L2 := [some (.inr (.inr 94)), some (.inl c), some (.inl r), some (.inl a), some (.inl q), some (.inl 0), some (.inl x6_41_2), some (.inl 1), some (.inl 5), none, none]) rfl rfl rfl ?_
                                              refine jv_iconst rfl rfl ?_
                                              refine jv_istoreK (L2 := [some (.inr (.inr 94)), some (.inl c), some (.inl r), some (.inl a), some (.inl q), some (.inl 0), some (.inl x6_41_2), some (.inl 1), some (.inl 5), some (.inl 0), none]) rfl rfl rfl ?_
                                              refine jv_iload rfl rfl rfl ?_
                                              refine jv_istoreK (L2 := [some (.inr (.inr 94)), some (.inl c), some (.inl r), some (.inl a), some (.inl q), some (.inl 0), some (.inl x6_41_2), some (.inl 1), some (.inl 5), some (.inl 0), some (.inl 1)]) rfl rfl rfl ?_
                                              exfalso; omega
                      · first
                        | (exfalso; omega)
                        | skip
                          refine jv_bipush rfl rfl ?_
                          refine jv_goto rfl rfl ?_
                          refine jv_iload_n rfl rfl rfl ?_
                          refine jv_iadd rfl rfl ⟨by omega, by omega⟩ ?_
                          refine jv_istore (fun x => [some (.inr (.inr 94)), some (.inl c), some (.inl r), some (.inl a), some (.inl q), some (.inl 0), some (.inl x), none, none, none, none]) rfl rfl (fun _ => rfl) (fun x6_41_3 ex6_41_3 => ?_)
                          refine jv_iload rfl rfl rfl ?_
                          refine jv_if_eq rfl rfl rfl (fun c43_3 => ?_) (fun c43_3 => ?_)
                          · first
                            | (exfalso; omega)
                            | skip
                              refine jv_iconst rfl rfl ?_
                              refine jv_goto rfl rfl ?_
                              refine jv_istoreK (L2 := [some (.inr (.inr 94)), some (.inl c), some (.inl r), some (.inl a), some (.inl q), some (.inl 0), some (.inl x6_41_3), some (.inl 1), none, none, none]) rfl rfl rfl ?_
                              refine jv_iload rfl rfl rfl ?_
                              refine jv_if_eq rfl rfl rfl (fun c52_9 => ?_) (fun c52_9 => ?_)
                              · first
                                | (exfalso; omega)
                                | skip
                                  refine jv_iconst rfl rfl ?_
                                  refine jv_goto rfl rfl ?_
                                  refine jv_istoreK (L2 := [some (.inr (.inr 94)), some (.inl c), some (.inl r), some (.inl a), some (.inl q), some (.inl 0), some (.inl x6_41_3), some (.inl 1), some (.inl 5), none, none]) rfl rfl rfl ?_
                                  refine jv_iconst rfl rfl ?_
                                  refine jv_istoreK (L2 := [some (.inr (.inr 94)), some (.inl c), some (.inl r), some (.inl a), some (.inl q), some (.inl 0), some (.inl x6_41_3), some (.inl 1), some (.inl 5), some (.inl 0), none]) rfl rfl rfl ?_
                                  refine jv_iload rfl rfl rfl ?_
                                  refine jv_istoreK (L2 := [some (.inr (.inr 94)), some (.inl c), some (.inl r), some (.inl a), some (.inl q), some (.inl 0), some (.inl x6_41_3), some (.inl 1), some (.inl 5), some (.inl 0), some (.inl 1)]) rfl rfl rfl ?_
                                  exfalso; omega
                              · first
                                | (exfalso; omega)
                                | skip
                                  refine jv_iload rfl rfl rfl ?_
                                  refine jv_iconst rfl rfl ?_
                                  refine jv_icmp_ne rfl rfl rfl (fun c55_9 => ?_) (fun c55_9 => ?_)
                                  · first
                                    | (exfalso; omega)
                                    | skip
                                      refine jv_iload rfl rfl rfl ?_
                                      refine jv_iconst rfl rfl ?_
                                      refine jv_icmp_ne rfl rfl rfl (fun c60_9 => ?_) (fun c60_9 => ?_)
                                      · first
                                        | (exfalso; omega)
                                        | skip
                                          refine jv_bipush rfl rfl ?_
                                          refine jv_istoreK (L2 := [some (.inr (.inr 94)), some (.inl c), some (.inl r), some (.inl a), some (.inl q), some (.inl 0), some (.inl x6_41_3), some (.inl 1), some (.inl 9), none, none]) rfl rfl rfl ?_
                                          refine jv_iconst rfl rfl ?_
                                          refine jv_istoreK (L2 := [some (.inr (.inr 94)), some (.inl c), some (.inl r), some (.inl a), some (.inl q), some (.inl 0), some (.inl x6_41_3), some (.inl 1), some (.inl 9), some (.inl 0), none]) rfl rfl rfl ?_
                                          refine jv_iload rfl rfl rfl ?_
                                          refine jv_istoreK (L2 := [some (.inr (.inr 94)), some (.inl c), some (.inl r), some (.inl a), some (.inl q), some (.inl 0), some (.inl x6_41_3), some (.inl 1), some (.inl 9), some (.inl 0), some (.inl 1)]) rfl rfl rfl ?_
                                          exfalso; omega
                                      · first
                                        | (exfalso; omega)
                                        | skip
                                          refine jv_bipush rfl rfl ?_
                                          refine jv_goto rfl rfl ?_
                                          refine jv_istoreK (L2 := [some (.inr (.inr 94)), some (.inl c), some (.inl r), some (.inl a), some (.inl q), some (.inl 0), some (.inl x6_41_3), some (.inl 1), some (.inl 29), none, none]) rfl rfl rfl ?_
                                          refine jv_iconst rfl rfl ?_
                                          refine jv_istoreK (L2 := [some (.inr (.inr 94)), some (.inl c), some (.inl r), some (.inl a), some (.inl q), some (.inl 0), some (.inl x6_41_3), some (.inl 1), some (.inl 29), some (.inl 0), none]) rfl rfl rfl ?_
                                          refine jv_iload rfl rfl rfl ?_
                                          refine jv_istoreK (L2 := [some (.inr (.inr 94)), some (.inl c), some (.inl r), some (.inl a), some (.inl q), some (.inl 0), some (.inl x6_41_3), some (.inl 1), some (.inl 29), some (.inl 0), some (.inl 1)]) rfl rfl rfl ?_
                                          exfalso; omega
                                  · first
                                    | (exfalso; omega)
                                    | skip
                                      refine jv_iconst rfl rfl ?_
                                      refine jv_goto rfl rfl ?_
                                      refine jv_istoreK (L2 := [some (.inr (.inr 94)), some (.inl c), some (.inl r), some (.inl a), some (.inl q), some (.inl 0), some (.inl x6_41_3), some (.inl 1), some (.inl 5), none, none]) rfl rfl rfl ?_
                                      refine jv_iconst rfl rfl ?_
                                      refine jv_istoreK (L2 := [some (.inr (.inr 94)), some (.inl c), some (.inl r), some (.inl a), some (.inl q), some (.inl 0), some (.inl x6_41_3), some (.inl 1), some (.inl 5), some (.inl 0), none]) rfl rfl rfl ?_
                                      refine jv_iload rfl rfl rfl ?_
                                      refine jv_istoreK (L2 := [some (.inr (.inr 94)), some (.inl c), some (.inl r), some (.inl a), some (.inl q), some (.inl 0), some (.inl x6_41_3), some (.inl 1), some (.inl 5), some (.inl 0), some (.inl 1)]) rfl rfl rfl ?_
                                      exfalso; omega
                          · first
                            | (exfalso; omega)
                            | skip
                              refine jv_iload rfl rfl rfl ?_
                              refine jv_iconst rfl rfl ?_
                              refine jv_icmp_ne rfl rfl rfl (fun c46_3 => ?_) (fun c46_3 => ?_)
                              · first
                                | (exfalso; omega)
                                | skip
                                  refine jv_iconst rfl rfl ?_
                                  refine jv_istoreK (L2 := [some (.inr (.inr 94)), some (.inl c), some (.inl r), some (.inl a), some (.inl q), some (.inl 0), some (.inl x6_41_3), some (.inl 0), none, none, none]) rfl rfl rfl ?_
                                  refine jv_iload rfl rfl rfl ?_
                                  refine jv_if_eq rfl rfl rfl (fun c52_10 => ?_) (fun c52_10 => ?_)
                                  · first
                                    | (exfalso; omega)
                                    | skip
                                      refine jv_iconst rfl rfl ?_
                                      refine jv_goto rfl rfl ?_
                                      refine jv_istoreK (L2 := [some (.inr (.inr 94)), some (.inl c), some (.inl r), some (.inl a), some (.inl q), some (.inl 0), some (.inl x6_41_3), some (.inl 0), some (.inl 5), none, none]) rfl rfl rfl ?_
                                      refine jv_iconst rfl rfl ?_
                                      refine jv_istoreK (L2 := [some (.inr (.inr 94)), some (.inl c), some (.inl r), some (.inl a), some (.inl q), some (.inl 0), some (.inl x6_41_3), some (.inl 0), some (.inl 5), some (.inl 0), none]) rfl rfl rfl ?_
                                      refine jv_iload rfl rfl rfl ?_
                                      refine jv_istoreK (L2 := [some (.inr (.inr 94)), some (.inl c), some (.inl r), some (.inl a), some (.inl q), some (.inl 0), some (.inl x6_41_3), some (.inl 0), some (.inl 5), some (.inl 0), some (.inl 0)]) rfl rfl rfl ?_
                                      exfalso; omega
                                  · first
                                    | (exfalso; omega)
                                    | skip
                                      refine jv_iload rfl rfl rfl ?_
                                      refine jv_iconst rfl rfl ?_
                                      refine jv_icmp_ne rfl rfl rfl (fun c55_10 => ?_) (fun c55_10 => ?_)
                                      · first
                                        | (exfalso; omega)
                                        | skip
                                          refine jv_iload rfl rfl rfl ?_
                                          refine jv_iconst rfl rfl ?_
                                          refine jv_icmp_ne rfl rfl rfl (fun c60_10 => ?_) (fun c60_10 => ?_)
                                          · first
                                            | (exfalso; omega)
                                            | skip
                                              refine jv_bipush rfl rfl ?_
                                              refine jv_istoreK (L2 := [some (.inr (.inr 94)), some (.inl c), some (.inl r), some (.inl a), some (.inl q), some (.inl 0), some (.inl x6_41_3), some (.inl 0), some (.inl 9), none, none]) rfl rfl rfl ?_
                                              refine jv_iconst rfl rfl ?_
                                              refine jv_istoreK (L2 := [some (.inr (.inr 94)), some (.inl c), some (.inl r), some (.inl a), some (.inl q), some (.inl 0), some (.inl x6_41_3), some (.inl 0), some (.inl 9), some (.inl 0), none]) rfl rfl rfl ?_
                                              refine jv_iload rfl rfl rfl ?_
                                              refine jv_istoreK (L2 := [some (.inr (.inr 94)), some (.inl c), some (.inl r), some (.inl a), some (.inl q), some (.inl 0), some (.inl x6_41_3), some (.inl 0), some (.inl 9), some (.inl 0), some (.inl 0)]) rfl rfl rfl ?_
                                              exfalso; omega
                                          · first
                                            | (exfalso; omega)
                                            | skip
                                              refine jv_bipush rfl rfl ?_
                                              refine jv_goto rfl rfl ?_
                                              refine jv_istoreK (L2 := [some (.inr (.inr 94)), some (.inl c), some (.inl r), some (.inl a), some (.inl q), some (.inl 0), some (.inl x6_41_3), some (.inl 0), some (.inl 29), none, none]) rfl rfl rfl ?_
                                              refine jv_iconst rfl rfl ?_
                                              refine jv_istoreK (L2 := [some (.inr (.inr 94)), some (.inl c), some (.inl r), some (.inl a), some (.inl q), some (.inl 0), some (.inl x6_41_3), some (.inl 0), some (.inl 29), some (.inl 0), none]) rfl rfl rfl ?_
                                              refine jv_iload rfl rfl rfl ?_
                                              refine jv_istoreK (L2 := [some (.inr (.inr 94)), some (.inl c), some (.inl r), some (.inl a), some (.inl q), some (.inl 0), some (.inl x6_41_3), some (.inl 0), some (.inl 29), some (.inl 0), some (.inl 0)]) rfl rfl rfl ?_
                                              exfalso; omega
                                      · first
                                        | (exfalso; omega)
                                        | skip
                                          refine jv_iconst rfl rfl ?_
                                          refine jv_goto rfl rfl ?_
                                          refine jv_istoreK (L2 := [some (.inr (.inr 94)), some (.inl c), some (.inl r), some (.inl a), some (.inl q), some (.inl 0), some (.inl x6_41_3), some (.inl 0), some (.inl 5), none, none]) rfl rfl rfl ?_
                                          refine jv_iconst rfl rfl ?_
                                          refine jv_istoreK (L2 := [some (.inr (.inr 94)), some (.inl c), some (.inl r), some (.inl a), some (.inl q), some (.inl 0), some (.inl x6_41_3), some (.inl 0), some (.inl 5), some (.inl 0), none]) rfl rfl rfl ?_
                                          refine jv_iload rfl rfl rfl ?_
                                          refine jv_istoreK (L2 := [some (.inr (.inr 94)), some (.inl c), some (.inl r), some (.inl a), some (.inl q), some (.inl 0), some (.inl x6_41_3), some (.inl 0), some (.inl 5), some (.inl 0), some (.inl 0)]) rfl rfl rfl ?_
                                          exfalso; omega
                              · first
                                | (exfalso; omega)
                                | skip
                                  refine jv_iconst rfl rfl ?_
                                  refine jv_goto rfl rfl ?_
                                  refine jv_istoreK (L2 := [some (.inr (.inr 94)), some (.inl c), some (.inl r), some (.inl a), some (.inl q), some (.inl 0), some (.inl x6_41_3), some (.inl 1), none, none, none]) rfl rfl rfl ?_
                                  refine jv_iload rfl rfl rfl ?_
                                  refine jv_if_eq rfl rfl rfl (fun c52_11 => ?_) (fun c52_11 => ?_)
                                  · first
                                    | (exfalso; omega)
                                    | skip
                                      refine jv_iconst rfl rfl ?_
                                      refine jv_goto rfl rfl ?_
                                      refine jv_istoreK (L2 := [some (.inr (.inr 94)), some (.inl c), some (.inl r), some (.inl a), some (.inl q), some (.inl 0), some (.inl x6_41_3), some (.inl 1), some (.inl 5), none, none]) rfl rfl rfl ?_
                                      refine jv_iconst rfl rfl ?_
                                      refine jv_istoreK (L2 := [some (.inr (.inr 94)), some (.inl c), some (.inl r), some (.inl a), some (.inl q), some (.inl 0), some (.inl x6_41_3), some (.inl 1), some (.inl 5), some (.inl 0), none]) rfl rfl rfl ?_
                                      refine jv_iload rfl rfl rfl ?_
                                      refine jv_istoreK (L2 := [some (.inr (.inr 94)), some (.inl c), some (.inl r), some (.inl a), some (.inl q), some (.inl 0), some (.inl x6_41_3), some (.inl 1), some (.inl 5), some (.inl 0), some (.inl 1)]) rfl rfl rfl ?_
                                      exfalso; omega
                                  · first
                                    | (exfalso; omega)
                                    | skip
                                      refine jv_iload rfl rfl rfl ?_
                                      refine jv_iconst rfl rfl ?_
                                      refine jv_icmp_ne rfl rfl rfl (fun c55_11 => ?_) (fun c55_11 => ?_)
                                      · first
                                        | (exfalso; omega)
                                        | skip
                                          refine jv_iload rfl rfl rfl ?_
                                          refine jv_iconst rfl rfl ?_
                                          refine jv_icmp_ne rfl rfl rfl (fun c60_11 => ?_) (fun c60_11 => ?_)
                                          · first
                                            | (exfalso; omega)
                                            | skip
                                              refine jv_bipush rfl rfl ?_
                                              refine jv_istoreK (L2 := [some (.inr (.inr 94)), some (.inl c), some (.inl r), some (.inl a), some (.inl q), some (.inl 0), some (.inl x6_41_3), some (.inl 1), some (.inl 9), none, none]) rfl rfl rfl ?_
                                              refine jv_iconst rfl rfl ?_
                                              refine jv_istoreK (L2 := [some (.inr (.inr 94)), some (.inl c), some (.inl r), some (.inl a), some (.inl q), some (.inl 0), some (.inl x6_41_3), some (.inl 1), some (.inl 9), some (.inl 0), none]) rfl rfl rfl ?_
                                              refine jv_iload rfl rfl rfl ?_
                                              refine jv_istoreK (L2 := [some (.inr (.inr 94)), some (.inl c), some (.inl r), some (.inl a), some (.inl q), some (.inl 0), some (.inl x6_41_3), some (.inl 1), some (.inl 9), some (.inl 0), some (.inl 1)]) rfl rfl rfl ?_
                                              exfalso; omega
                                          · first
                                            | (exfalso; omega)
                                            | skip
                                              refine jv_bipush rfl rfl ?_
                                              refine jv_goto rfl rfl ?_
                                              refine jv_istoreK (L2 := [some (.inr (.inr 94)), some (.inl c), some (.inl r), some (.inl a), some (.inl q), some (.inl 0), some (.inl x6_41_3), some (.inl 1), some (.inl 29), none, none]) rfl rfl rfl ?_
                                              refine jv_iconst rfl rfl ?_
                                              refine jv_istoreK (L2 := [some (.inr (.inr 94)), some (.inl c), some (.inl r), some (.inl a), some (.inl q), some (.inl 0), some (.inl x6_41_3), some (.inl 1), some (.inl 29), some (.inl 0), none]) rfl rfl rfl ?_
                                              refine jv_iload rfl rfl rfl ?_
                                              refine jv_istoreK (L2 := [some (.inr (.inr 94)), some (.inl c), some (.inl r), some (.inl a), some (.inl q), some (.inl 0), some (.inl x6_41_3), some (.inl 1), some (.inl 29), some (.inl 0), some (.inl 1)]) rfl rfl rfl ?_
                                              exfalso; omega
                                      · first
                                        | (exfalso; omega)
                                        | skip
                                          refine jv_iconst rfl rfl ?_
                                          refine jv_goto rfl rfl ?_
                                          refine jv_istoreK (L2 := [some (.inr (.inr 94)), some (.inl c), some (.inl r), some (.inl a), some (.inl q), some (.inl 0), some (.inl x6_41_3), some (.inl 1), some (.inl 5), none, none]) rfl rfl rfl ?_
                                          refine jv_iconst rfl rfl ?_
                                          refine jv_istoreK (L2 := [some (.inr (.inr 94)), some (.inl c), some (.inl r), some (.inl a), some (.inl q), some (.inl 0), some (.inl x6_41_3), some (.inl 1), some (.inl 5), some (.inl 0), none]) rfl rfl rfl ?_
                                          refine jv_iload rfl rfl rfl ?_
                                          refine jv_istoreK (L2 := [some (.inr (.inr 94)), some (.inl c), some (.inl r), some (.inl a), some (.inl q), some (.inl 0), some (.inl x6_41_3), some (.inl 1), some (.inl 5), some (.inl 0), some (.inl 1)]) rfl rfl rfl ?_
                                          exfalso; omega
                  · first
                    | (exfalso; omega)
                    | skip
                      show jV _ _ jm_p_X10_fits _ 19 [some (.inr (.inr 94)), some (.inl c), some (.inl r), some (.inl a), some (.inl q), none, none, none, none, none, none] [.inl (-1000012)] ν18_1
                      refine jv_istoreK (L2 := [some (.inr (.inr 94)), some (.inl c), some (.inl r), some (.inl a), some (.inl q), some (.inl (-1000012)), none, none, none, none, none]) rfl rfl rfl ?_
                      refine jv_iload rfl rfl rfl ?_
                      refine jv_if_eqF rfl rfl (by decide) ?_
                      refine jv_iload rfl rfl rfl ?_
                      refine jv_ireturn rfl (Or.inl rfl) ?_
                      exact ⟨jv_one (by omega), by exfalso; omega⟩
              · first
                | (exfalso; omega)
                | skip
                  show jV _ _ jm_p_X10_fits _ 12 [some (.inr (.inr 94)), some (.inl c), some (.inl r), some (.inl a), some (.inl q), none, none, none, none, none, none] [.inl 0] μ
                  refine jv_if_neF rfl rfl (by decide) ?_
                  refine jv_ldc rfl rfl ?_
                  refine jv_ireturn rfl (Or.inl rfl) ?_
                  exact ⟨jv_one (by omega), hI⟩
          · first
            | (exfalso; omega)
            | skip
              show jV _ _ jm_p_X10_fits _ 6 [some (.inr (.inr 94)), some (.inl c), some (.inl r), some (.inl a), some (.inl q), none, none, none, none, none, none] [.inl 0] μ
              refine jv_if_eqT rfl rfl (by decide) ?_
              refine jv_ldc rfl rfl ?_
              refine jv_ireturn rfl (Or.inl rfl) ?_
              exact ⟨jv_one (by omega), hI⟩
      · first
        | (exfalso; omega)
        | skip
          show jV _ _ jm_p_X10_fits _ 3 [some (.inr (.inr 94)), some (.inl c), some (.inl r), some (.inl a), some (.inl q), none, none, none, none, none, none] [.inl 0] μ
          refine jv_if_eqT rfl rfl (by decide) ?_
          refine jv_ldc rfl rfl ?_
          refine jv_ireturn rfl (Or.inl rfl) ?_
          exact ⟨jv_one (by omega), hI⟩
    · show jV _ _ jm_p_X9_fits _ 6 [some (.inr (.inr 0)), some (.inl c), some (.inl r), some (.inl a), some (.inl q), none] [.inl 0] μ
      refine jv_if_neF rfl rfl (by decide) ?_
      refine jv_iload rfl rfl rfl ?_
      refine jv_if_lt rfl rfl rfl (fun c8 => ?_) (fun c8 => ?_)
      · refine jv_ldc rfl rfl ?_
        refine jv_ireturn rfl (Or.inl rfl) ?_
        refine ⟨_, rfl, ?_⟩
        have fc : jf μ μ := jf_id μ
        have hUμ : jU μ (μ 95) := jU_jf fc
        have q94μ : μ 94 1 = μ 94 1 := by rw [fc 94 (by omega)]
        refine jv_enter (d := 199) jm_p_X10_fits [some (.inr (.inr 94)), some (.inl c), some (.inl r), some (.inl a), some (.inl q), none, none, none, none, none, none] rfl rfl rfl (Nat.le_of_ble_eq_true rfl) rfl rfl ?_
        refine jv_aload_n rfl rfl rfl (by decide) ?_
        refine jv_iload_n rfl rfl rfl ?_
        refine jv_callV1 rfl rfl rfl rfl ⟨by decide, rfl⟩ (Nat.le_of_ble_eq_true rfl) (mo_isComer (by omega) (fun b2 => ?_) (fun b2 => ?_))
        · first
          | (exfalso; omega)
          | skip
            show jV _ _ jm_p_X10_fits _ 3 [some (.inr (.inr 94)), some (.inl c), some (.inl r), some (.inl a), some (.inl q), none, none, none, none, none, none] [.inl 1] μ
            refine jv_if_eqF rfl rfl (by decide) ?_
            refine jv_iload_n rfl rfl rfl ?_
            refine jv_callS1 rfl rfl rfl (Nat.le_of_ble_eq_true rfl) (mo_isRow (fun b5 => ?_) (fun b5 => ?_))
            · first
              | (exfalso; omega)
              | skip
                show jV _ _ jm_p_X10_fits _ 6 [some (.inr (.inr 94)), some (.inl c), some (.inl r), some (.inl a), some (.inl q), none, none, none, none, none, none] [.inl 1] μ
                refine jv_if_eqF rfl rfl (by decide) ?_
                refine jv_iload rfl rfl rfl ?_
                refine jv_i2l rfl rfl ?_
                refine jv_lconst rfl rfl ?_
                refine jv_ldc2_w rfl rfl ?_
                refine jv_callS3 rfl rfl rfl (Nat.le_of_ble_eq_true rfl) (mo_in (fun b11 => ?_) (fun b11 => ?_))
                · first
                  | (exfalso; omega)
                  | skip
                    show jV _ _ jm_p_X10_fits _ 12 [some (.inr (.inr 94)), some (.inl c), some (.inl r), some (.inl a), some (.inl q), none, none, none, none, none, none] [.inl 1] μ
                    refine jv_if_neT rfl rfl (by decide) ?_
                    refine jv_aload_n rfl rfl rfl (by decide) ?_
                    refine jv_iload_n rfl rfl rfl ?_
                    refine jv_iload_n rfl rfl rfl ?_
                    refine jv_callV2 rfl rfl rfl rfl ⟨by decide, rfl⟩ (Nat.le_of_ble_eq_true rfl) (mo_noItems (by omega) (by omega) (by omega) (by omega) (fun h18_0 ν18 eν18 => ?_) (fun h18_0 h18_1 => ?_) (fun h18_0 h18_1 ν18_1 eν18_1 => ?_))
                    · first
                      | (exfalso; omega)
                      | skip
                        show jV _ _ jm_p_X10_fits _ 19 [some (.inr (.inr 94)), some (.inl c), some (.inl r), some (.inl a), some (.inl q), none, none, none, none, none, none] [.inl (-1000011)] ν18
                        refine jv_istoreK (L2 := [some (.inr (.inr 94)), some (.inl c), some (.inl r), some (.inl a), some (.inl q), some (.inl (-1000011)), none, none, none, none, none]) rfl rfl rfl ?_
                        refine jv_iload rfl rfl rfl ?_
                        refine jv_if_eqF rfl rfl (by decide) ?_
                        refine jv_iload rfl rfl rfl ?_
                        refine jv_ireturn rfl (Or.inl rfl) ?_
                        exact ⟨jv_one (by omega), by exfalso; omega⟩
                    · first
                      | (exfalso; omega)
                      | skip
                        show jV _ _ jm_p_X10_fits _ 19 [some (.inr (.inr 94)), some (.inl c), some (.inl r), some (.inl a), some (.inl q), none, none, none, none, none, none] [.inl 0] μ
                        refine jv_istoreK (L2 := [some (.inr (.inr 94)), some (.inl c), some (.inl r), some (.inl a), some (.inl q), some (.inl 0), none, none, none, none, none]) rfl rfl rfl ?_
                        refine jv_iload rfl rfl rfl ?_
                        refine jv_if_eqT rfl rfl (by decide) ?_
                        refine jv_iload rfl rfl rfl ?_
                        refine jv_if_ne rfl rfl rfl (fun c25 => ?_) (fun c25 => ?_)
                        · first
                          | (exfalso; omega)
                          | skip
                            refine jv_iload rfl rfl rfl ?_
                            refine jv_iconst rfl rfl ?_
                            refine jv_icmp_ne rfl rfl rfl (fun c30 => ?_) (fun c30 => ?_)
                            · first
                              | (exfalso; omega)
                              | skip
                                refine jv_iload rfl rfl rfl ?_
                                refine jv_iconst rfl rfl ?_
                                refine jv_icmp_ne rfl rfl rfl (fun c35 => ?_) (fun c35 => ?_)
                                · first
                                  | (exfalso; omega)
                                  | skip
                                    refine jv_bipush rfl rfl ?_
                                    refine jv_iload_n rfl rfl rfl ?_
                                    refine jv_iadd rfl rfl ⟨by omega, by omega⟩ ?_
                                    refine jv_istore (fun x => [some (.inr (.inr 94)), some (.inl c), some (.inl r), some (.inl a), some (.inl q), some (.inl 0), some (.inl x), none, none, none, none]) rfl rfl (fun _ => rfl) (fun x6_41 ex6_41 => ?_)
                                    refine jv_iload rfl rfl rfl ?_
                                    refine jv_if_eq rfl rfl rfl (fun c43 => ?_) (fun c43 => ?_)
                                    · first
                                      | (exfalso; omega)
                                      | skip
                                        refine jv_iconst rfl rfl ?_
                                        refine jv_goto rfl rfl ?_
                                        refine jv_istoreK (L2 := [some (.inr (.inr 94)), some (.inl c), some (.inl r), some (.inl a), some (.inl q), some (.inl 0), some (.inl x6_41), some (.inl 1), none, none, none]) rfl rfl rfl ?_
                                        refine jv_iload rfl rfl rfl ?_
                                        refine jv_if_eq rfl rfl rfl (fun c52 => ?_) (fun c52 => ?_)
                                        · first
                                          | (exfalso; omega)
                                          | skip
                                            refine jv_iconst rfl rfl ?_
                                            refine jv_goto rfl rfl ?_
                                            refine jv_istoreK (L2 := [some (.inr (.inr 94)), some (.inl c), some (.inl r), some (.inl a), some (.inl q), some (.inl 0), some (.inl x6_41), some (.inl 1), some (.inl 5), none, none]) rfl rfl rfl ?_
                                            refine jv_iconst rfl rfl ?_
                                            refine jv_istoreK (L2 := [some (.inr (.inr 94)), some (.inl c), some (.inl r), some (.inl a), some (.inl q), some (.inl 0), some (.inl x6_41), some (.inl 1), some (.inl 5), some (.inl 0), none]) rfl rfl rfl ?_
                                            refine jv_iload rfl rfl rfl ?_
                                            refine jv_istoreK (L2 := [some (.inr (.inr 94)), some (.inl c), some (.inl r), some (.inl a), some (.inl q), some (.inl 0), some (.inl x6_41), some (.inl 1), some (.inl 5), some (.inl 0), some (.inl 1)]) rfl rfl rfl ?_
                                            exfalso; omega
                                        · first
                                          | (exfalso; omega)
                                          | skip
                                            refine jv_iload rfl rfl rfl ?_
                                            refine jv_iconst rfl rfl ?_
                                            refine jv_icmp_ne rfl rfl rfl (fun c55 => ?_) (fun c55 => ?_)
                                            · first
                                              | (exfalso; omega)
                                              | skip
                                                refine jv_iload rfl rfl rfl ?_
                                                refine jv_iconst rfl rfl ?_
                                                refine jv_icmp_ne rfl rfl rfl (fun c60 => ?_) (fun c60 => ?_)
                                                · first
                                                  | (exfalso; omega)
                                                  | skip
                                                    refine jv_bipush rfl rfl ?_
                                                    refine jv_istoreK (L2 := [some (.inr (.inr 94)), some (.inl c), some (.inl r), some (.inl a), some (.inl q), some (.inl 0), some (.inl x6_41), some (.inl 1), some (.inl 9), none, none]) rfl rfl rfl ?_
                                                    refine jv_iconst rfl rfl ?_
                                                    refine jv_istoreK (L2 := [some (.inr (.inr 94)), some (.inl c), some (.inl r), some (.inl a), some (.inl q), some (.inl 0), some (.inl x6_41), some (.inl 1), some (.inl 9), some (.inl 0), none]) rfl rfl rfl ?_
                                                    refine jv_iload rfl rfl rfl ?_
                                                    refine jv_istoreK (L2 := [some (.inr (.inr 94)), some (.inl c), some (.inl r), some (.inl a), some (.inl q), some (.inl 0), some (.inl x6_41), some (.inl 1), some (.inl 9), some (.inl 0), some (.inl 1)]) rfl rfl rfl ?_
                                                    exfalso; omega
                                                · first
                                                  | (exfalso; omega)
                                                  | skip
                                                    refine jv_bipush rfl rfl ?_
                                                    refine jv_goto rfl rfl ?_
                                                    refine jv_istoreK (L2 := [some (.inr (.inr 94)), some (.inl c), some (.inl r), some (.inl a), some (.inl q), some (.inl 0), some (.inl x6_41), some (.inl 1), some (.inl 29), none, none]) rfl rfl rfl ?_
                                                    refine jv_iconst rfl rfl ?_
                                                    refine jv_istoreK (L2 := [some (.inr (.inr 94)), some (.inl c), some (.inl r), some (.inl a), some (.inl q), some (.inl 0), some (.inl x6_41), some (.inl 1), some (.inl 29), some (.inl 0), none]) rfl rfl rfl ?_
                                                    refine jv_iload rfl rfl rfl ?_
                                                    refine jv_istoreK (L2 := [some (.inr (.inr 94)), some (.inl c), some (.inl r), some (.inl a), some (.inl q), some (.inl 0), some (.inl x6_41), some (.inl 1), some (.inl 29), some (.inl 0), some (.inl 1)]) rfl rfl rfl ?_
                                                    exfalso; omega
                                            · first
                                              | (exfalso; omega)
                                              | skip
                                                refine jv_iconst rfl rfl ?_
                                                refine jv_goto rfl rfl ?_
                                                refine jv_istoreK (L2 := [some (.inr (.inr 94)), some (.inl c), some (.inl r), some (.inl a), some (.inl q), some (.inl 0), some (.inl x6_41), some (.inl 1), some (.inl 5), none, none]) rfl rfl rfl ?_
                                                refine jv_iconst rfl rfl ?_
                                                refine jv_istoreK (L2 := [some (.inr (.inr 94)), some (.inl c), some (.inl r), some (.inl a), some (.inl q), some (.inl 0), some (.inl x6_41), some (.inl 1), some (.inl 5), some (.inl 0), none]) rfl rfl rfl ?_
                                                refine jv_iload rfl rfl rfl ?_
                                                refine jv_istoreK (L2 := [some (.inr (.inr 94)), some (.inl c), some (.inl r), some (.inl a), some (.inl q), some (.inl 0), some (.inl x6_41), some (.inl 1), some (.inl 5), some (.inl 0), some (.inl 1)]) rfl rfl rfl ?_
                                                exfalso; omega
                                    · first
                                      | (exfalso; omega)
                                      | skip
                                        refine jv_iload rfl rfl rfl ?_
                                        refine jv_iconst rfl rfl ?_
                                        refine jv_icmp_ne rfl rfl rfl (fun c46 => ?_) (fun c46 => ?_)
                                        · first
                                          | (exfalso; omega)
                                          | skip
                                            refine jv_iconst rfl rfl ?_
                                            refine jv_istoreK (L2 := [some (.inr (.inr 94)), some (.inl c), some (.inl r), some (.inl a), some (.inl q), some (.inl 0), some (.inl x6_41), some (.inl 0), none, none, none]) rfl rfl rfl ?_
                                            refine jv_iload rfl rfl rfl ?_
                                            refine jv_if_eq rfl rfl rfl (fun c52_1 => ?_) (fun c52_1 => ?_)
                                            · first
                                              | (exfalso; omega)
                                              | skip
                                                refine jv_iconst rfl rfl ?_
                                                refine jv_goto rfl rfl ?_
                                                refine jv_istoreK (L2 := [some (.inr (.inr 94)), some (.inl c), some (.inl r), some (.inl a), some (.inl q), some (.inl 0), some (.inl x6_41), some (.inl 0), some (.inl 5), none, none]) rfl rfl rfl ?_
                                                refine jv_iconst rfl rfl ?_
                                                refine jv_istoreK (L2 := [some (.inr (.inr 94)), some (.inl c), some (.inl r), some (.inl a), some (.inl q), some (.inl 0), some (.inl x6_41), some (.inl 0), some (.inl 5), some (.inl 0), none]) rfl rfl rfl ?_
                                                refine jv_iload rfl rfl rfl ?_
                                                refine jv_istoreK (L2 := [some (.inr (.inr 94)), some (.inl c), some (.inl r), some (.inl a), some (.inl q), some (.inl 0), some (.inl x6_41), some (.inl 0), some (.inl 5), some (.inl 0), some (.inl 0)]) rfl rfl rfl ?_
                                                exfalso; omega
                                            · first
                                              | (exfalso; omega)
                                              | skip
                                                refine jv_iload rfl rfl rfl ?_
                                                refine jv_iconst rfl rfl ?_
                                                refine jv_icmp_ne rfl rfl rfl (fun c55_1 => ?_) (fun c55_1 => ?_)
                                                · first
                                                  | (exfalso; omega)
                                                  | skip
                                                    refine jv_iload rfl rfl rfl ?_
                                                    refine jv_iconst rfl rfl ?_
                                                    refine jv_icmp_ne rfl rfl rfl (fun c60_1 => ?_) (fun c60_1 => ?_)
                                                    · first
                                                      | (exfalso; omega)
                                                      | skip
                                                        refine jv_bipush rfl rfl ?_
                                                        refine jv_istoreK (L2 := [some (.inr (.inr 94)), some (.inl c), some (.inl r), some (.inl a), some (.inl q), some (.inl 0), some (.inl x6_41), some (.inl 0), some (.inl 9), none, none]) rfl rfl rfl ?_
                                                        refine jv_iconst rfl rfl ?_
                                                        refine jv_istoreK (L2 := [some (.inr (.inr 94)), some (.inl c), some (.inl r), some (.inl a), some (.inl q), some (.inl 0), some (.inl x6_41), some (.inl 0), some (.inl 9), some (.inl 0), none]) rfl rfl rfl ?_
                                                        refine jv_iload rfl rfl rfl ?_
                                                        refine jv_istoreK (L2 := [some (.inr (.inr 94)), some (.inl c), some (.inl r), some (.inl a), some (.inl q), some (.inl 0), some (.inl x6_41), some (.inl 0), some (.inl 9), some (.inl 0), some (.inl 0)]) rfl rfl rfl ?_
                                                        exfalso; omega
                                                    · first
                                                      | (exfalso; omega)
                                                      | skip
                                                        refine jv_bipush rfl rfl ?_
                                                        refine jv_goto rfl rfl ?_
                                                        refine jv_istoreK (L2 := [some (.inr (.inr 94)), some (.inl c), some (.inl r), some (.inl a), some (.inl q), some (.inl 0), some (.inl x6_41), some (.inl 0), some (.inl 29), none, none]) rfl rfl rfl ?_
                                                        refine jv_iconst rfl rfl ?_
                                                        refine jv_istoreK (L2 := [some (.inr (.inr 94)), some (.inl c), some (.inl r), some (.inl a), some (.inl q), some (.inl 0), some (.inl x6_41), some (.inl 0), some (.inl 29), some (.inl 0), none]) rfl rfl rfl ?_
                                                        refine jv_iload rfl rfl rfl ?_
                                                        refine jv_istoreK (L2 := [some (.inr (.inr 94)), some (.inl c), some (.inl r), some (.inl a), some (.inl q), some (.inl 0), some (.inl x6_41), some (.inl 0), some (.inl 29), some (.inl 0), some (.inl 0)]) rfl rfl rfl ?_
                                                        exfalso; omega
                                                · first
                                                  | (exfalso; omega)
                                                  | skip
                                                    refine jv_iconst rfl rfl ?_
                                                    refine jv_goto rfl rfl ?_
                                                    refine jv_istoreK (L2 := [some (.inr (.inr 94)), some (.inl c), some (.inl r), some (.inl a), some (.inl q), some (.inl 0), some (.inl x6_41), some (.inl 0), some (.inl 5), none, none]) rfl rfl rfl ?_
                                                    refine jv_iconst rfl rfl ?_
                                                    refine jv_istoreK (L2 := [some (.inr (.inr 94)), some (.inl c), some (.inl r), some (.inl a), some (.inl q), some (.inl 0), some (.inl x6_41), some (.inl 0), some (.inl 5), some (.inl 0), none]) rfl rfl rfl ?_
                                                    refine jv_iload rfl rfl rfl ?_
                                                    refine jv_istoreK (L2 := [some (.inr (.inr 94)), some (.inl c), some (.inl r), some (.inl a), some (.inl q), some (.inl 0), some (.inl x6_41), some (.inl 0), some (.inl 5), some (.inl 0), some (.inl 0)]) rfl rfl rfl ?_
                                                    exfalso; omega
                                        · first
                                          | (exfalso; omega)
                                          | skip
                                            refine jv_iconst rfl rfl ?_
                                            refine jv_goto rfl rfl ?_
                                            refine jv_istoreK (L2 := [some (.inr (.inr 94)), some (.inl c), some (.inl r), some (.inl a), some (.inl q), some (.inl 0), some (.inl x6_41), some (.inl 1), none, none, none]) rfl rfl rfl ?_
                                            refine jv_iload rfl rfl rfl ?_
                                            refine jv_if_eq rfl rfl rfl (fun c52_2 => ?_) (fun c52_2 => ?_)
                                            · first
                                              | (exfalso; omega)
                                              | skip
                                                refine jv_iconst rfl rfl ?_
                                                refine jv_goto rfl rfl ?_
                                                refine jv_istoreK (L2 := [some (.inr (.inr 94)), some (.inl c), some (.inl r), some (.inl a), some (.inl q), some (.inl 0), some (.inl x6_41), some (.inl 1), some (.inl 5), none, none]) rfl rfl rfl ?_
                                                refine jv_iconst rfl rfl ?_
                                                refine jv_istoreK (L2 := [some (.inr (.inr 94)), some (.inl c), some (.inl r), some (.inl a), some (.inl q), some (.inl 0), some (.inl x6_41), some (.inl 1), some (.inl 5), some (.inl 0), none]) rfl rfl rfl ?_
                                                refine jv_iload rfl rfl rfl ?_
                                                refine jv_istoreK (L2 := [some (.inr (.inr 94)), some (.inl c), some (.inl r), some (.inl a), some (.inl q), some (.inl 0), some (.inl x6_41), some (.inl 1), some (.inl 5), some (.inl 0), some (.inl 1)]) rfl rfl rfl ?_
                                                exfalso; omega
                                            · first
                                              | (exfalso; omega)
                                              | skip
                                                refine jv_iload rfl rfl rfl ?_
                                                refine jv_iconst rfl rfl ?_
                                                refine jv_icmp_ne rfl rfl rfl (fun c55_2 => ?_) (fun c55_2 => ?_)
                                                · first
                                                  | (exfalso; omega)
                                                  | skip
                                                    refine jv_iload rfl rfl rfl ?_
                                                    refine jv_iconst rfl rfl ?_
                                                    refine jv_icmp_ne rfl rfl rfl (fun c60_2 => ?_) (fun c60_2 => ?_)
                                                    · first
                                                      | (exfalso; omega)
                                                      | skip
                                                        refine jv_bipush rfl rfl ?_
                                                        refine jv_istoreK (L2 := [some (.inr (.inr 94)), some (.inl c), some (.inl r), some (.inl a), some (.inl q), some (.inl 0), some (.inl x6_41), some (.inl 1), some (.inl 9), none, none]) rfl rfl rfl ?_
                                                        refine jv_iconst rfl rfl ?_
                                                        refine jv_istoreK (L2 := [some (.inr (.inr 94)), some (.inl c), some (.inl r), some (.inl a), some (.inl q), some (.inl 0), some (.inl x6_41), some (.inl 1), some (.inl 9), some (.inl 0), none]) rfl rfl rfl ?_
                                                        refine jv_iload rfl rfl rfl ?_
                                                        refine jv_istoreK (L2 := [some (.inr (.inr 94)), some (.inl c), some (.inl r), some (.inl a), some (.inl q), some (.inl 0), some (.inl x6_41), some (.inl 1), some (.inl 9), some (.inl 0), some (.inl 1)]) rfl rfl rfl ?_
                                                        exfalso; omega
                                                    · first
                                                      | (exfalso; omega)
                                                      | skip
                                                        refine jv_bipush rfl rfl ?_
                                                        refine jv_goto rfl rfl ?_
                                                        refine jv_istoreK (L2 := [some (.inr (.inr 94)), some (.inl c), some (.inl r), some (.inl a), some (.inl q), some (.inl 0), some (.inl x6_41), some (.inl 1), some (.inl 29), none, none]) rfl rfl rfl ?_
                                                        refine jv_iconst rfl rfl ?_
                                                        refine jv_istoreK (L2 := [some (.inr (.inr 94)), some (.inl c), some (.inl r), some (.inl a), some (.inl q), some (.inl 0), some (.inl x6_41), some (.inl 1), some (.inl 29), some (.inl 0), none]) rfl rfl rfl ?_
                                                        refine jv_iload rfl rfl rfl ?_
                                                        refine jv_istoreK (L2 := [some (.inr (.inr 94)), some (.inl c), some (.inl r), some (.inl a), some (.inl q), some (.inl 0), some (.inl x6_41), some (.inl 1), some (.inl 29), some (.inl 0), some (.inl 1)]) rfl rfl rfl ?_
                                                        exfalso; omega
                                                · first
                                                  | (exfalso; omega)
                                                  | skip
                                                    refine jv_iconst rfl rfl ?_
                                                    refine jv_goto rfl rfl ?_
                                                    refine jv_istoreK (L2 := [some (.inr (.inr 94)), some (.inl c), some (.inl r), some (.inl a), some (.inl q), some (.inl 0), some (.inl x6_41), some (.inl 1), some (.inl 5), none, none]) rfl rfl rfl ?_
                                                    refine jv_iconst rfl rfl ?_
                                                    refine jv_istoreK (L2 := [some (.inr (.inr 94)), some (.inl c), some (.inl r), some (.inl a), some (.inl q), some (.inl 0), some (.inl x6_41), some (.inl 1), some (.inl 5), some (.inl 0), none]) rfl rfl rfl ?_
                                                    refine jv_iload rfl rfl rfl ?_
                                                    refine jv_istoreK (L2 := [some (.inr (.inr 94)), some (.inl c), some (.inl r), some (.inl a), some (.inl q), some (.inl 0), some (.inl x6_41), some (.inl 1), some (.inl 5), some (.inl 0), some (.inl 1)]) rfl rfl rfl ?_
                                                    exfalso; omega
                                · first
                                  | (exfalso; omega)
                                  | skip
                                    refine jv_bipush rfl rfl ?_
                                    refine jv_goto rfl rfl ?_
                                    refine jv_iload_n rfl rfl rfl ?_
                                    refine jv_iadd rfl rfl ⟨by omega, by omega⟩ ?_
                                    refine jv_istore (fun x => [some (.inr (.inr 94)), some (.inl c), some (.inl r), some (.inl a), some (.inl q), some (.inl 0), some (.inl x), none, none, none, none]) rfl rfl (fun _ => rfl) (fun x6_41_1 ex6_41_1 => ?_)
                                    refine jv_iload rfl rfl rfl ?_
                                    refine jv_if_eq rfl rfl rfl (fun c43_1 => ?_) (fun c43_1 => ?_)
                                    · first
                                      | (exfalso; omega)
                                      | skip
                                        refine jv_iconst rfl rfl ?_
                                        refine jv_goto rfl rfl ?_
                                        refine jv_istoreK (L2 := [some (.inr (.inr 94)), some (.inl c), some (.inl r), some (.inl a), some (.inl q), some (.inl 0), some (.inl x6_41_1), some (.inl 1), none, none, none]) rfl rfl rfl ?_
                                        refine jv_iload rfl rfl rfl ?_
                                        refine jv_if_eq rfl rfl rfl (fun c52_3 => ?_) (fun c52_3 => ?_)
                                        · first
                                          | (exfalso; omega)
                                          | skip
                                            refine jv_iconst rfl rfl ?_
                                            refine jv_goto rfl rfl ?_
                                            refine jv_istoreK (L2 := [some (.inr (.inr 94)), some (.inl c), some (.inl r), some (.inl a), some (.inl q), some (.inl 0), some (.inl x6_41_1), some (.inl 1), some (.inl 5), none, none]) rfl rfl rfl ?_
                                            refine jv_iconst rfl rfl ?_
                                            refine jv_istoreK (L2 := [some (.inr (.inr 94)), some (.inl c), some (.inl r), some (.inl a), some (.inl q), some (.inl 0), some (.inl x6_41_1), some (.inl 1), some (.inl 5), some (.inl 0), none]) rfl rfl rfl ?_
                                            refine jv_iload rfl rfl rfl ?_
                                            refine jv_istoreK (L2 := [some (.inr (.inr 94)), some (.inl c), some (.inl r), some (.inl a), some (.inl q), some (.inl 0), some (.inl x6_41_1), some (.inl 1), some (.inl 5), some (.inl 0), some (.inl 1)]) rfl rfl rfl ?_
                                            exfalso; omega
                                        · first
                                          | (exfalso; omega)
                                          | skip
                                            refine jv_iload rfl rfl rfl ?_
                                            refine jv_iconst rfl rfl ?_
                                            refine jv_icmp_ne rfl rfl rfl (fun c55_3 => ?_) (fun c55_3 => ?_)
                                            · first
                                              | (exfalso; omega)
                                              | skip
                                                refine jv_iload rfl rfl rfl ?_
                                                refine jv_iconst rfl rfl ?_
                                                refine jv_icmp_ne rfl rfl rfl (fun c60_3 => ?_) (fun c60_3 => ?_)
                                                · first
                                                  | (exfalso; omega)
                                                  | skip
                                                    refine jv_bipush rfl rfl ?_
                                                    refine jv_istoreK (L2 := [some (.inr (.inr 94)), some (.inl c), some (.inl r), some (.inl a), some (.inl q), some (.inl 0), some (.inl x6_41_1), some (.inl 1), some (.inl 9), none, none]) rfl rfl rfl ?_
                                                    refine jv_iconst rfl rfl ?_
                                                    refine jv_istoreK (L2 := [some (.inr (.inr 94)), some (.inl c), some (.inl r), some (.inl a), some (.inl q), some (.inl 0), some (.inl x6_41_1), some (.inl 1), some (.inl 9), some (.inl 0), none]) rfl rfl rfl ?_
                                                    refine jv_iload rfl rfl rfl ?_
                                                    refine jv_istoreK (L2 := [some (.inr (.inr 94)), some (.inl c), some (.inl r), some (.inl a), some (.inl q), some (.inl 0), some (.inl x6_41_1), some (.inl 1), some (.inl 9), some (.inl 0), some (.inl 1)]) rfl rfl rfl ?_
                                                    exfalso; omega
                                                · first
                                                  | (exfalso; omega)
                                                  | skip
                                                    refine jv_bipush rfl rfl ?_
                                                    refine jv_goto rfl rfl ?_
                                                    refine jv_istoreK (L2 := [some (.inr (.inr 94)), some (.inl c), some (.inl r), some (.inl a), some (.inl q), some (.inl 0), some (.inl x6_41_1), some (.inl 1), some (.inl 29), none, none]) rfl rfl rfl ?_
                                                    refine jv_iconst rfl rfl ?_
                                                    refine jv_istoreK (L2 := [some (.inr (.inr 94)), some (.inl c), some (.inl r), some (.inl a), some (.inl q), some (.inl 0), some (.inl x6_41_1), some (.inl 1), some (.inl 29), some (.inl 0), none]) rfl rfl rfl ?_
                                                    refine jv_iload rfl rfl rfl ?_
                                                    refine jv_istoreK (L2 := [some (.inr (.inr 94)), some (.inl c), some (.inl r), some (.inl a), some (.inl q), some (.inl 0), some (.inl x6_41_1), some (.inl 1), some (.inl 29), some (.inl 0), some (.inl 1)]) rfl rfl rfl ?_
                                                    exfalso; omega
                                            · first
                                              | (exfalso; omega)
                                              | skip
                                                refine jv_iconst rfl rfl ?_
                                                refine jv_goto rfl rfl ?_
                                                refine jv_istoreK (L2 := [some (.inr (.inr 94)), some (.inl c), some (.inl r), some (.inl a), some (.inl q), some (.inl 0), some (.inl x6_41_1), some (.inl 1), some (.inl 5), none, none]) rfl rfl rfl ?_
                                                refine jv_iconst rfl rfl ?_
                                                refine jv_istoreK (L2 := [some (.inr (.inr 94)), some (.inl c), some (.inl r), some (.inl a), some (.inl q), some (.inl 0), some (.inl x6_41_1), some (.inl 1), some (.inl 5), some (.inl 0), none]) rfl rfl rfl ?_
                                                refine jv_iload rfl rfl rfl ?_
                                                refine jv_istoreK (L2 := [some (.inr (.inr 94)), some (.inl c), some (.inl r), some (.inl a), some (.inl q), some (.inl 0), some (.inl x6_41_1), some (.inl 1), some (.inl 5), some (.inl 0), some (.inl 1)]) rfl rfl rfl ?_
                                                exfalso; omega
                                    · first
                                      | (exfalso; omega)
                                      | skip
                                        refine jv_iload rfl rfl rfl ?_
                                        refine jv_iconst rfl rfl ?_
                                        refine jv_icmp_ne rfl rfl rfl (fun c46_1 => ?_) (fun c46_1 => ?_)
                                        · first
                                          | (exfalso; omega)
                                          | skip
                                            refine jv_iconst rfl rfl ?_
                                            refine jv_istoreK (L2 := [some (.inr (.inr 94)), some (.inl c), some (.inl r), some (.inl a), some (.inl q), some (.inl 0), some (.inl x6_41_1), some (.inl 0), none, none, none]) rfl rfl rfl ?_
                                            refine jv_iload rfl rfl rfl ?_
                                            refine jv_if_eq rfl rfl rfl (fun c52_4 => ?_) (fun c52_4 => ?_)
                                            · first
                                              | (exfalso; omega)
                                              | skip
                                                refine jv_iconst rfl rfl ?_
                                                refine jv_goto rfl rfl ?_
                                                refine jv_istoreK (L2 := [some (.inr (.inr 94)), some (.inl c), some (.inl r), some (.inl a), some (.inl q), some (.inl 0), some (.inl x6_41_1), some (.inl 0), some (.inl 5), none, none]) rfl rfl rfl ?_
                                                refine jv_iconst rfl rfl ?_
                                                refine jv_istoreK (L2 := [some (.inr (.inr 94)), some (.inl c), some (.inl r), some (.inl a), some (.inl q), some (.inl 0), some (.inl x6_41_1), some (.inl 0), some (.inl 5), some (.inl 0), none]) rfl rfl rfl ?_
                                                refine jv_iload rfl rfl rfl ?_
                                                refine jv_istoreK (L2 := [some (.inr (.inr 94)), some (.inl c), some (.inl r), some (.inl a), some (.inl q), some (.inl 0), some (.inl x6_41_1), some (.inl 0), some (.inl 5), some (.inl 0), some (.inl 0)]) rfl rfl rfl ?_
                                                exfalso; omega
                                            · first
                                              | (exfalso; omega)
                                              | skip
                                                refine jv_iload rfl rfl rfl ?_
                                                refine jv_iconst rfl rfl ?_
                                                refine jv_icmp_ne rfl rfl rfl (fun c55_4 => ?_) (fun c55_4 => ?_)
                                                · first
                                                  | (exfalso; omega)
                                                  | skip
                                                    refine jv_iload rfl rfl rfl ?_
                                                    refine jv_iconst rfl rfl ?_
                                                    refine jv_icmp_ne rfl rfl rfl (fun c60_4 => ?_) (fun c60_4 => ?_)
                                                    · first
                                                      | (exfalso; omega)
                                                      | skip
                                                        refine jv_bipush rfl rfl ?_
                                                        refine jv_istoreK (L2 := [some (.inr (.inr 94)), some (.inl c), some (.inl r), some (.inl a), some (.inl q), some (.inl 0), some (.inl x6_41_1), some (.inl 0), some (.inl 9), none, none]) rfl rfl rfl ?_
                                                        refine jv_iconst rfl rfl ?_
                                                        refine jv_istoreK (L2 := [some (.inr (.inr 94)), some (.inl c), some (.inl r), some (.inl a), some (.inl q), some (.inl 0), some (.inl x6_41_1), some (.inl 0), some (.inl 9), some (.inl 0), none]) rfl rfl rfl ?_
                                                        refine jv_iload rfl rfl rfl ?_
                                                        refine jv_istoreK (L2 := [some (.inr (.inr 94)), some (.inl c), some (.inl r), some (.inl a), some (.inl q), some (.inl 0), some (.inl x6_41_1), some (.inl 0), some (.inl 9), some (.inl 0), some (.inl 0)]) rfl rfl rfl ?_
                                                        exfalso; omega
                                                    · first
                                                      | (exfalso; omega)
                                                      | skip
                                                        refine jv_bipush rfl rfl ?_
                                                        refine jv_goto rfl rfl ?_
                                                        refine jv_istoreK (L2 := [some (.inr (.inr 94)), some (.inl c), some (.inl r), some (.inl a), some (.inl q), some (.inl 0), some (.inl x6_41_1), some (.inl 0), some (.inl 29), none, none]) rfl rfl rfl ?_
                                                        refine jv_iconst rfl rfl ?_
                                                        refine jv_istoreK (L2 := [some (.inr (.inr 94)), some (.inl c), some (.inl r), some (.inl a), some (.inl q), some (.inl 0), some (.inl x6_41_1), some (.inl 0), some (.inl 29), some (.inl 0), none]) rfl rfl rfl ?_
                                                        refine jv_iload rfl rfl rfl ?_
                                                        refine jv_istoreK (L2 := [some (.inr (.inr 94)), some (.inl c), some (.inl r), some (.inl a), some (.inl q), some (.inl 0), some (.inl x6_41_1), some (.inl 0), some (.inl 29), some (.inl 0), some (.inl 0)]) rfl rfl rfl ?_
                                                        exfalso; omega
                                                · first
                                                  | (exfalso; omega)
                                                  | skip
                                                    refine jv_iconst rfl rfl ?_
                                                    refine jv_goto rfl rfl ?_
                                                    refine jv_istoreK (L2 := [some (.inr (.inr 94)), some (.inl c), some (.inl r), some (.inl a), some (.inl q), some (.inl 0), some (.inl x6_41_1), some (.inl 0), some (.inl 5), none, none]) rfl rfl rfl ?_
                                                    refine jv_iconst rfl rfl ?_
                                                    refine jv_istoreK (L2 := [some (.inr (.inr 94)), some (.inl c), some (.inl r), some (.inl a), some (.inl q), some (.inl 0), some (.inl x6_41_1), some (.inl 0), some (.inl 5), some (.inl 0), none]) rfl rfl rfl ?_
                                                    refine jv_iload rfl rfl rfl ?_
                                                    refine jv_istoreK (L2 := [some (.inr (.inr 94)), some (.inl c), some (.inl r), some (.inl a), some (.inl q), some (.inl 0), some (.inl x6_41_1), some (.inl 0), some (.inl 5), some (.inl 0), some (.inl 0)]) rfl rfl rfl ?_
                                                    exfalso; omega
                                        · first
                                          | (exfalso; omega)
                                          | skip
                                            refine jv_iconst rfl rfl ?_
                                            refine jv_goto rfl rfl ?_
                                            refine jv_istoreK (L2 := [some (.inr (.inr 94)), some (.inl c), some (.inl r), some (.inl a), some (.inl q), some (.inl 0), some (.inl x6_41_1), some (.inl 1), none, none, none]) rfl rfl rfl ?_
                                            refine jv_iload rfl rfl rfl ?_
                                            refine jv_if_eq rfl rfl rfl (fun c52_5 => ?_) (fun c52_5 => ?_)
                                            · first
                                              | (exfalso; omega)
                                              | skip
                                                refine jv_iconst rfl rfl ?_
                                                refine jv_goto rfl rfl ?_
                                                refine jv_istoreK (L2 := [some (.inr (.inr 94)), some (.inl c), some (.inl r), some (.inl a), some (.inl q), some (.inl 0), some (.inl x6_41_1), some (.inl 1), some (.inl 5), none, none]) rfl rfl rfl ?_
                                                refine jv_iconst rfl rfl ?_
                                                refine jv_istoreK (L2 := [some (.inr (.inr 94)), some (.inl c), some (.inl r), some (.inl a), some (.inl q), some (.inl 0), some (.inl x6_41_1), some (.inl 1), some (.inl 5), some (.inl 0), none]) rfl rfl rfl ?_
                                                refine jv_iload rfl rfl rfl ?_
                                                refine jv_istoreK (L2 := [some (.inr (.inr 94)), some (.inl c), some (.inl r), some (.inl a), some (.inl q), some (.inl 0), some (.inl x6_41_1), some (.inl 1), some (.inl 5), some (.inl 0), some (.inl 1)]) rfl rfl rfl ?_
                                                exfalso; omega
                                            · first
                                              | (exfalso; omega)
                                              | skip
                                                refine jv_iload rfl rfl rfl ?_
                                                refine jv_iconst rfl rfl ?_
                                                refine jv_icmp_ne rfl rfl rfl (fun c55_5 => ?_) (fun c55_5 => ?_)
                                                · first
                                                  | (exfalso; omega)
                                                  | skip
                                                    refine jv_iload rfl rfl rfl ?_
                                                    refine jv_iconst rfl rfl ?_
                                                    refine jv_icmp_ne rfl rfl rfl (fun c60_5 => ?_) (fun c60_5 => ?_)
                                                    · first
                                                      | (exfalso; omega)
                                                      | skip
                                                        refine jv_bipush rfl rfl ?_
                                                        refine jv_istoreK (L2 := [some (.inr (.inr 94)), some (.inl c), some (.inl r), some (.inl a), some (.inl q), some (.inl 0), some (.inl x6_41_1), some (.inl 1), some (.inl 9), none, none]) rfl rfl rfl ?_
                                                        refine jv_iconst rfl rfl ?_
                                                        refine jv_istoreK (L2 := [some (.inr (.inr 94)), some (.inl c), some (.inl r), some (.inl a), some (.inl q), some (.inl 0), some (.inl x6_41_1), some (.inl 1), some (.inl 9), some (.inl 0), none]) rfl rfl rfl ?_
                                                        refine jv_iload rfl rfl rfl ?_
                                                        refine jv_istoreK (L2 := [some (.inr (.inr 94)), some (.inl c), some (.inl r), some (.inl a), some (.inl q), some (.inl 0), some (.inl x6_41_1), some (.inl 1), some (.inl 9), some (.inl 0), some (.inl 1)]) rfl rfl rfl ?_
                                                        exfalso; omega
                                                    · first
                                                      | (exfalso; omega)
                                                      | skip
                                                        refine jv_bipush rfl rfl ?_
                                                        refine jv_goto rfl rfl ?_
                                                        refine jv_istoreK (L2 := [some (.inr (.inr 94)), some (.inl c), some (.inl r), some (.inl a), some (.inl q), some (.inl 0), some (.inl x6_41_1), some (.inl 1), some (.inl 29), none, none]) rfl rfl rfl ?_
                                                        refine jv_iconst rfl rfl ?_
                                                        refine jv_istoreK (L2 := [some (.inr (.inr 94)), some (.inl c), some (.inl r), some (.inl a), some (.inl q), some (.inl 0), some (.inl x6_41_1), some (.inl 1), some (.inl 29), some (.inl 0), none]) rfl rfl rfl ?_
                                                        refine jv_iload rfl rfl rfl ?_
                                                        refine jv_istoreK (L2 := [some (.inr (.inr 94)), some (.inl c), some (.inl r), some (.inl a), some (.inl q), some (.inl 0), some (.inl x6_41_1), some (.inl 1), some (.inl 29), some (.inl 0), some (.inl 1)]) rfl rfl rfl ?_
                                                        exfalso; omega
                                                · first
                                                  | (exfalso; omega)
                                                  | skip
                                                    refine jv_iconst rfl rfl ?_
                                                    refine jv_goto rfl rfl ?_
                                                    refine jv_istoreK (L2 := [some (.inr (.inr 94)), some (.inl c), some (.inl r), some (.inl a), some (.inl q), some (.inl 0), some (.inl x6_41_1), some (.inl 1), some (.inl 5), none, none]) rfl rfl rfl ?_
                                                    refine jv_iconst rfl rfl ?_
                                                    refine jv_istoreK (L2 := [some (.inr (.inr 94)), some (.inl c), some (.inl r), some (.inl a), some (.inl q), some (.inl 0), some (.inl x6_41_1), some (.inl 1), some (.inl 5), some (.inl 0), none]) rfl rfl rfl ?_
                                                    refine jv_iload rfl rfl rfl ?_
                                                    refine jv_istoreK (L2 := [some (.inr (.inr 94)), some (.inl c), some (.inl r), some (.inl a), some (.inl q), some (.inl 0), some (.inl x6_41_1), some (.inl 1), some (.inl 5), some (.inl 0), some (.inl 1)]) rfl rfl rfl ?_
                                                    exfalso; omega
                            · first
                              | (exfalso; omega)
                              | skip
                                refine jv_bipush rfl rfl ?_
                                refine jv_goto rfl rfl ?_
                                refine jv_iload_n rfl rfl rfl ?_
                                refine jv_iadd rfl rfl ⟨by omega, by omega⟩ ?_
                                refine jv_istore (fun x => [some (.inr (.inr 94)), some (.inl c), some (.inl r), some (.inl a), some (.inl q), some (.inl 0), some (.inl x), none, none, none, none]) rfl rfl (fun _ => rfl) (fun x6_41_2 ex6_41_2 => ?_)
                                refine jv_iload rfl rfl rfl ?_
                                refine jv_if_eq rfl rfl rfl (fun c43_2 => ?_) (fun c43_2 => ?_)
                                · first
                                  | (exfalso; omega)
                                  | skip
                                    refine jv_iconst rfl rfl ?_
                                    refine jv_goto rfl rfl ?_
                                    refine jv_istoreK (L2 := [some (.inr (.inr 94)), some (.inl c), some (.inl r), some (.inl a), some (.inl q), some (.inl 0), some (.inl x6_41_2), some (.inl 1), none, none, none]) rfl rfl rfl ?_
                                    refine jv_iload rfl rfl rfl ?_
                                    refine jv_if_eq rfl rfl rfl (fun c52_6 => ?_) (fun c52_6 => ?_)
                                    · first
                                      | (exfalso; omega)
                                      | skip
                                        refine jv_iconst rfl rfl ?_
                                        refine jv_goto rfl rfl ?_
                                        refine jv_istoreK (L2 := [some (.inr (.inr 94)), some (.inl c), some (.inl r), some (.inl a), some (.inl q), some (.inl 0), some (.inl x6_41_2), some (.inl 1), some (.inl 5), none, none]) rfl rfl rfl ?_
                                        refine jv_iconst rfl rfl ?_
                                        refine jv_istoreK (L2 := [some (.inr (.inr 94)), some (.inl c), some (.inl r), some (.inl a), some (.inl q), some (.inl 0), some (.inl x6_41_2), some (.inl 1), some (.inl 5), some (.inl 0), none]) rfl rfl rfl ?_
                                        refine jv_iload rfl rfl rfl ?_
                                        refine jv_istoreK (L2 := [some (.inr (.inr 94)), some (.inl c), some (.inl r), some (.inl a), some (.inl q), some (.inl 0), some (.inl x6_41_2), some (.inl 1), some (.inl 5), some (.inl 0), some (.inl 1)]) rfl rfl rfl ?_
                                        exfalso; omega
                                    · first
                                      | (exfalso; omega)
                                      | skip
                                        refine jv_iload rfl rfl rfl ?_
                                        refine jv_iconst rfl rfl ?_
                                        refine jv_icmp_ne rfl rfl rfl (fun c55_6 => ?_) (fun c55_6 => ?_)
                                        · first
                                          | (exfalso; omega)
                                          | skip
                                            refine jv_iload rfl rfl rfl ?_
                                            refine jv_iconst rfl rfl ?_
                                            refine jv_icmp_ne rfl rfl rfl (fun c60_6 => ?_) (fun c60_6 => ?_)
                                            · first
                                              | (exfalso; omega)
                                              | skip
                                                refine jv_bipush rfl rfl ?_
                                                refine jv_istoreK (L2 := [some (.inr (.inr 94)), some (.inl c), some (.inl r), some (.inl a), some (.inl q), some (.inl 0), some (.inl x6_41_2), some (.inl 1), some (.inl 9), none, none]) rfl rfl rfl ?_
                                                refine jv_iconst rfl rfl ?_
                                                refine jv_istoreK (L2 := [some (.inr (.inr 94)), some (.inl c), some (.inl r), some (.inl a), some (.inl q), some (.inl 0), some (.inl x6_41_2), some (.inl 1), some (.inl 9), some (.inl 0), none]) rfl rfl rfl ?_
                                                refine jv_iload rfl rfl rfl ?_
                                                refine jv_istoreK (L2 := [some (.inr (.inr 94)), some (.inl c), some (.inl r), some (.inl a), some (.inl q), some (.inl 0), some (.inl x6_41_2), some (.inl 1), some (.inl 9), some (.inl 0), some (.inl 1)]) rfl rfl rfl ?_
                                                exfalso; omega
                                            · first
                                              | (exfalso; omega)
                                              | skip
                                                refine jv_bipush rfl rfl ?_
                                                refine jv_goto rfl rfl ?_
                                                refine jv_istoreK (L2 := [some (.inr (.inr 94)), some (.inl c), some (.inl r), some (.inl a), some (.inl q), some (.inl 0), some (.inl x6_41_2), some (.inl 1), some (.inl 29), none, none]) rfl rfl rfl ?_
                                                refine jv_iconst rfl rfl ?_
                                                refine jv_istoreK (L2 := [some (.inr (.inr 94)), some (.inl c), some (.inl r), some (.inl a), some (.inl q), some (.inl 0), some (.inl x6_41_2), some (.inl 1), some (.inl 29), some (.inl 0), none]) rfl rfl rfl ?_
                                                refine jv_iload rfl rfl rfl ?_
                                                refine jv_istoreK (L2 := [some (.inr (.inr 94)), some (.inl c), some (.inl r), some (.inl a), some (.inl q), some (.inl 0), some (.inl x6_41_2), some (.inl 1), some (.inl 29), some (.inl 0), some (.inl 1)]) rfl rfl rfl ?_
                                                exfalso; omega
                                        · first
                                          | (exfalso; omega)
                                          | skip
                                            refine jv_iconst rfl rfl ?_
                                            refine jv_goto rfl rfl ?_
                                            refine jv_istoreK (L2 := [some (.inr (.inr 94)), some (.inl c), some (.inl r), some (.inl a), some (.inl q), some (.inl 0), some (.inl x6_41_2), some (.inl 1), some (.inl 5), none, none]) rfl rfl rfl ?_
                                            refine jv_iconst rfl rfl ?_
                                            refine jv_istoreK (L2 := [some (.inr (.inr 94)), some (.inl c), some (.inl r), some (.inl a), some (.inl q), some (.inl 0), some (.inl x6_41_2), some (.inl 1), some (.inl 5), some (.inl 0), none]) rfl rfl rfl ?_
                                            refine jv_iload rfl rfl rfl ?_
                                            refine jv_istoreK (L2 := [some (.inr (.inr 94)), some (.inl c), some (.inl r), some (.inl a), some (.inl q), some (.inl 0), some (.inl x6_41_2), some (.inl 1), some (.inl 5), some (.inl 0), some (.inl 1)]) rfl rfl rfl ?_
                                            exfalso; omega
                                · first
                                  | (exfalso; omega)
                                  | skip
                                    refine jv_iload rfl rfl rfl ?_
                                    refine jv_iconst rfl rfl ?_
                                    refine jv_icmp_ne rfl rfl rfl (fun c46_2 => ?_) (fun c46_2 => ?_)
                                    · first
                                      | (exfalso; omega)
                                      | skip
                                        refine jv_iconst rfl rfl ?_
                                        refine jv_istoreK (L2 := [some (.inr (.inr 94)), some (.inl c), some (.inl r), some (.inl a), some (.inl q), some (.inl 0), some (.inl x6_41_2), some (.inl 0), none, none, none]) rfl rfl rfl ?_
                                        refine jv_iload rfl rfl rfl ?_
                                        refine jv_if_eq rfl rfl rfl (fun c52_7 => ?_) (fun c52_7 => ?_)
                                        · first
                                          | (exfalso; omega)
                                          | skip
                                            refine jv_iconst rfl rfl ?_
                                            refine jv_goto rfl rfl ?_
                                            refine jv_istoreK (L2 := [some (.inr (.inr 94)), some (.inl c), some (.inl r), some (.inl a), some (.inl q), some (.inl 0), some (.inl x6_41_2), some (.inl 0), some (.inl 5), none, none]) rfl rfl rfl ?_
                                            refine jv_iconst rfl rfl ?_
                                            refine jv_istoreK (L2 := [some (.inr (.inr 94)), some (.inl c), some (.inl r), some (.inl a), some (.inl q), some (.inl 0), some (.inl x6_41_2), some (.inl 0), some (.inl 5), some (.inl 0), none]) rfl rfl rfl ?_
                                            refine jv_iload rfl rfl rfl ?_
                                            refine jv_istoreK (L2 := [some (.inr (.inr 94)), some (.inl c), some (.inl r), some (.inl a), some (.inl q), some (.inl 0), some (.inl x6_41_2), some (.inl 0), some (.inl 5), some (.inl 0), some (.inl 0)]) rfl rfl rfl ?_
                                            exfalso; omega
                                        · first
                                          | (exfalso; omega)
                                          | skip
                                            refine jv_iload rfl rfl rfl ?_
                                            refine jv_iconst rfl rfl ?_
                                            refine jv_icmp_ne rfl rfl rfl (fun c55_7 => ?_) (fun c55_7 => ?_)
                                            · first
                                              | (exfalso; omega)
                                              | skip
                                                refine jv_iload rfl rfl rfl ?_
                                                refine jv_iconst rfl rfl ?_
                                                refine jv_icmp_ne rfl rfl rfl (fun c60_7 => ?_) (fun c60_7 => ?_)
                                                · first
                                                  | (exfalso; omega)
                                                  | skip
                                                    refine jv_bipush rfl rfl ?_
                                                    refine jv_istoreK (L2 := [some (.inr (.inr 94)), some (.inl c), some (.inl r), some (.inl a), some (.inl q), some (.inl 0), some (.inl x6_41_2), some (.inl 0), some (.inl 9), none, none]) rfl rfl rfl ?_
                                                    refine jv_iconst rfl rfl ?_
                                                    refine jv_istoreK (L2 := [some (.inr (.inr 94)), some (.inl c), some (.inl r), some (.inl a), some (.inl q), some (.inl 0), some (.inl x6_41_2), some (.inl 0), some (.inl 9), some (.inl 0), none]) rfl rfl rfl ?_
                                                    refine jv_iload rfl rfl rfl ?_
                                                    refine jv_istoreK (L2 := [some (.inr (.inr 94)), some (.inl c), some (.inl r), some (.inl a), some (.inl q), some (.inl 0), some (.inl x6_41_2), some (.inl 0), some (.inl 9), some (.inl 0), some (.inl 0)]) rfl rfl rfl ?_
                                                    exfalso; omega
                                                · first
                                                  | (exfalso; omega)
                                                  | skip
                                                    refine jv_bipush rfl rfl ?_
                                                    refine jv_goto rfl rfl ?_
                                                    refine jv_istoreK (L2 := [some (.inr (.inr 94)), some (.inl c), some (.inl r), some (.inl a), some (.inl q), some (.inl 0), some (.inl x6_41_2), some (.inl 0), some (.inl 29), none, none]) rfl rfl rfl ?_
                                                    refine jv_iconst rfl rfl ?_
                                                    refine jv_istoreK (L2 := [some (.inr (.inr 94)), some (.inl c), some (.inl r), some (.inl a), some (.inl q), some (.inl 0), some (.inl x6_41_2), some (.inl 0), some (.inl 29), some (.inl 0), none]) rfl rfl rfl ?_
                                                    refine jv_iload rfl rfl rfl ?_
                                                    refine jv_istoreK (L2 := [some (.inr (.inr 94)), some (.inl c), some (.inl r), some (.inl a), some (.inl q), some (.inl 0), some (.inl x6_41_2), some (.inl 0), some (.inl 29), some (.inl 0), some (.inl 0)]) rfl rfl rfl ?_
                                                    exfalso; omega
                                            · first
                                              | (exfalso; omega)
                                              | skip
                                                refine jv_iconst rfl rfl ?_
                                                refine jv_goto rfl rfl ?_
                                                refine jv_istoreK (L2 := [some (.inr (.inr 94)), some (.inl c), some (.inl r), some (.inl a), some (.inl q), some (.inl 0), some (.inl x6_41_2), some (.inl 0), some (.inl 5), none, none]) rfl rfl rfl ?_
                                                refine jv_iconst rfl rfl ?_
                                                refine jv_istoreK (L2 := [some (.inr (.inr 94)), some (.inl c), some (.inl r), some (.inl a), some (.inl q), some (.inl 0), some (.inl x6_41_2), some (.inl 0), some (.inl 5), some (.inl 0), none]) rfl rfl rfl ?_
                                                refine jv_iload rfl rfl rfl ?_
                                                refine jv_istoreK (L2 := [some (.inr (.inr 94)), some (.inl c), some (.inl r), some (.inl a), some (.inl q), some (.inl 0), some (.inl x6_41_2), some (.inl 0), some (.inl 5), some (.inl 0), some (.inl 0)]) rfl rfl rfl ?_
                                                exfalso; omega
                                    · first
                                      | (exfalso; omega)
                                      | skip
                                        refine jv_iconst rfl rfl ?_
                                        refine jv_goto rfl rfl ?_
                                        refine jv_istoreK (L2 := [some (.inr (.inr 94)), some (.inl c), some (.inl r), some (.inl a), some (.inl q), some (.inl 0), some (.inl x6_41_2), some (.inl 1), none, none, none]) rfl rfl rfl ?_
                                        refine jv_iload rfl rfl rfl ?_
                                        refine jv_if_eq rfl rfl rfl (fun c52_8 => ?_) (fun c52_8 => ?_)
                                        · first
                                          | (exfalso; omega)
                                          | skip
                                            refine jv_iconst rfl rfl ?_
                                            refine jv_goto rfl rfl ?_
                                            refine jv_istoreK (L2 := [some (.inr (.inr 94)), some (.inl c), some (.inl r), some (.inl a), some (.inl q), some (.inl 0), some (.inl x6_41_2), some (.inl 1), some (.inl 5), none, none]) rfl rfl rfl ?_
                                            refine jv_iconst rfl rfl ?_
                                            refine jv_istoreK (L2 := [some (.inr (.inr 94)), some (.inl c), some (.inl r), some (.inl a), some (.inl q), some (.inl 0), some (.inl x6_41_2), some (.inl 1), some (.inl 5), some (.inl 0), none]) rfl rfl rfl ?_
                                            refine jv_iload rfl rfl rfl ?_
                                            refine jv_istoreK (L2 := [some (.inr (.inr 94)), some (.inl c), some (.inl r), some (.inl a), some (.inl q), some (.inl 0), some (.inl x6_41_2), some (.inl 1), some (.inl 5), some (.inl 0), some (.inl 1)]) rfl rfl rfl ?_
                                            exfalso; omega
                                        · first
                                          | (exfalso; omega)
                                          | skip
                                            refine jv_iload rfl rfl rfl ?_
                                            refine jv_iconst rfl rfl ?_
                                            refine jv_icmp_ne rfl rfl rfl (fun c55_8 => ?_) (fun c55_8 => ?_)
                                            · first
                                              | (exfalso; omega)
                                              | skip
                                                refine jv_iload rfl rfl rfl ?_
                                                refine jv_iconst rfl rfl ?_
                                                refine jv_icmp_ne rfl rfl rfl (fun c60_8 => ?_) (fun c60_8 => ?_)
                                                · first
                                                  | (exfalso; omega)
                                                  | skip
                                                    refine jv_bipush rfl rfl ?_
                                                    refine jv_istoreK (L2 := [some (.inr (.inr 94)), some (.inl c), some (.inl r), some (.inl a), some (.inl q), some (.inl 0), some (.inl x6_41_2), some (.inl 1), some (.inl 9), none, none]) rfl rfl rfl ?_
                                                    refine jv_iconst rfl rfl ?_
                                                    refine jv_istoreK (L2 := [some (.inr (.inr 94)), some (.inl c), some (.inl r), some (.inl a), some (.inl q), some (.inl 0), some (.inl x6_41_2), some (.inl 1), some (.inl 9), some (.inl 0), none]) rfl rfl rfl ?_
                                                    refine jv_iload rfl rfl rfl ?_
                                                    refine jv_istoreK (L2 := [some (.inr (.inr 94)), some (.inl c), some (.inl r), some (.inl a), some (.inl q), some (.inl 0), some (.inl x6_41_2), some (.inl 1), some (.inl 9), some (.inl 0), some (.inl 1)]) rfl rfl rfl ?_
                                                    exfalso; omega
                                                · first
                                                  | (exfalso; omega)
                                                  | skip
                                                    refine jv_bipush rfl rfl ?_
                                                    refine jv_goto rfl rfl ?_
                                                    refine jv_istoreK (L2 := [some (.inr (.inr 94)), some (.inl c), some (.inl r), some (.inl a), some (.inl q), some (.inl 0), some (.inl x6_41_2), some (.inl 1), some (.inl 29), none, none]) rfl rfl rfl ?_
                                                    refine jv_iconst rfl rfl ?_
                                                    refine jv_istoreK (L2 := [some (.inr (.inr 94)), some (.inl c), some (.inl r), some (.inl a), some (.inl q), some (.inl 0), some (.inl x6_41_2), some (.inl 1), some (.inl 29), some (.inl 0), none]) rfl rfl rfl ?_
                                                    refine jv_iload rfl rfl rfl ?_
                                                    refine jv_istoreK (L2 := [some (.inr (.inr 94)), some (.inl c), some (.inl r), some (.inl a), some (.inl q), some (.inl 0), some (.inl x6_41_2), some (.inl 1), some (.inl 29), some (.inl 0), some (.inl 1)]) rfl rfl rfl ?_
                                                    exfalso; omega
                                            · first
                                              | (exfalso; omega)
                                              | skip
                                                refine jv_iconst rfl rfl ?_
                                                refine jv_goto rfl rfl ?_
                                                refine jv_istoreK (L2 := [some (.inr (.inr 94)), some (.inl c), some (.inl r), some (.inl a), some (.inl q), some (.inl 0), some (.inl x6_41_2), some (.inl 1), some (.inl 5), none, none]) rfl rfl rfl ?_
                                                refine jv_iconst rfl rfl ?_
                                                refine jv_istoreK (L2 := [some (.inr (.inr 94)), some (.inl c), some (.inl r), some (.inl a), some (.inl q), some (.inl 0), some (.inl x6_41_2), some (.inl 1), some (.inl 5), some (.inl 0), none]) rfl rfl rfl ?_
                                                refine jv_iload rfl rfl rfl ?_
                                                refine jv_istoreK (L2 := [some (.inr (.inr 94)), some (.inl c), some (.inl r), some (.inl a), some (.inl q), some (.inl 0), some (.inl x6_41_2), some (.inl 1), some (.inl 5), some (.inl 0), some (.inl 1)]) rfl rfl rfl ?_
                                                exfalso; omega
                        · first
                          | (exfalso; omega)
                          | skip
                            refine jv_bipush rfl rfl ?_
                            refine jv_goto rfl rfl ?_
                            refine jv_iload_n rfl rfl rfl ?_
                            refine jv_iadd rfl rfl ⟨by omega, by omega⟩ ?_
                            refine jv_istore (fun x => [some (.inr (.inr 94)), some (.inl c), some (.inl r), some (.inl a), some (.inl q), some (.inl 0), some (.inl x), none, none, none, none]) rfl rfl (fun _ => rfl) (fun x6_41_3 ex6_41_3 => ?_)
                            refine jv_iload rfl rfl rfl ?_
                            refine jv_if_eq rfl rfl rfl (fun c43_3 => ?_) (fun c43_3 => ?_)
                            · first
                              | (exfalso; omega)
                              | skip
                                refine jv_iconst rfl rfl ?_
                                refine jv_goto rfl rfl ?_
                                refine jv_istoreK (L2 := [some (.inr (.inr 94)), some (.inl c), some (.inl r), some (.inl a), some (.inl q), some (.inl 0), some (.inl x6_41_3), some (.inl 1), none, none, none]) rfl rfl rfl ?_
                                refine jv_iload rfl rfl rfl ?_
                                refine jv_if_eq rfl rfl rfl (fun c52_9 => ?_) (fun c52_9 => ?_)
                                · first
                                  | (exfalso; omega)
                                  | skip
                                    refine jv_iconst rfl rfl ?_
                                    refine jv_goto rfl rfl ?_
                                    refine jv_istoreK (L2 := [some (.inr (.inr 94)), some (.inl c), some (.inl r), some (.inl a), some (.inl q), some (.inl 0), some (.inl x6_41_3), some (.inl 1), some (.inl 5), none, none]) rfl rfl rfl ?_
                                    refine jv_iconst rfl rfl ?_
                                    refine jv_istoreK (L2 := [some (.inr (.inr 94)), some (.inl c), some (.inl r), some (.inl a), some (.inl q), some (.inl 0), some (.inl x6_41_3), some (.inl 1), some (.inl 5), some (.inl 0), none]) rfl rfl rfl ?_
                                    refine jv_iload rfl rfl rfl ?_
                                    refine jv_istoreK (L2 := [some (.inr (.inr 94)), some (.inl c), some (.inl r), some (.inl a), some (.inl q), some (.inl 0), some (.inl x6_41_3), some (.inl 1), some (.inl 5), some (.inl 0), some (.inl 1)]) rfl rfl rfl ?_
                                    exfalso; omega
                                · first
                                  | (exfalso; omega)
                                  | skip
                                    refine jv_iload rfl rfl rfl ?_
                                    refine jv_iconst rfl rfl ?_
                                    refine jv_icmp_ne rfl rfl rfl (fun c55_9 => ?_) (fun c55_9 => ?_)
                                    · first
                                      | (exfalso; omega)
                                      | skip
                                        refine jv_iload rfl rfl rfl ?_
                                        refine jv_iconst rfl rfl ?_
                                        refine jv_icmp_ne rfl rfl rfl (fun c60_9 => ?_) (fun c60_9 => ?_)
                                        · first
                                          | (exfalso; omega)
                                          | skip
                                            refine jv_bipush rfl rfl ?_
                                            refine jv_istoreK (L2 := [some (.inr (.inr 94)), some (.inl c), some (.inl r), some (.inl a), some (.inl q), some (.inl 0), some (.inl x6_41_3), some (.inl 1), some (.inl 9), none, none]) rfl rfl rfl ?_
                                            refine jv_iconst rfl rfl ?_
                                            refine jv_istoreK (L2 := [some (.inr (.inr 94)), some (.inl c), some (.inl r), some (.inl a), some (.inl q), some (.inl 0), some (.inl x6_41_3), some (.inl 1), some (.inl 9), some (.inl 0), none]) rfl rfl rfl ?_
                                            refine jv_iload rfl rfl rfl ?_
                                            refine jv_istoreK (L2 := [some (.inr (.inr 94)), some (.inl c), some (.inl r), some (.inl a), some (.inl q), some (.inl 0), some (.inl x6_41_3), some (.inl 1), some (.inl 9), some (.inl 0), some (.inl 1)]) rfl rfl rfl ?_
                                            exfalso; omega
                                        · first
                                          | (exfalso; omega)
                                          | skip
                                            refine jv_bipush rfl rfl ?_
                                            refine jv_goto rfl rfl ?_
                                            refine jv_istoreK (L2 := [some (.inr (.inr 94)), some (.inl c), some (.inl r), some (.inl a), some (.inl q), some (.inl 0), some (.inl x6_41_3), some (.inl 1), some (.inl 29), none, none]) rfl rfl rfl ?_
                                            refine jv_iconst rfl rfl ?_
                                            refine jv_istoreK (L2 := [some (.inr (.inr 94)), some (.inl c), some (.inl r), some (.inl a), some (.inl q), some (.inl 0), some (.inl x6_41_3), some (.inl 1), some (.inl 29), some (.inl 0), none]) rfl rfl rfl ?_
                                            refine jv_iload rfl rfl rfl ?_
                                            refine jv_istoreK (L2 := [some (.inr (.inr 94)), some (.inl c), some (.inl r), some (.inl a), some (.inl q), some (.inl 0), some (.inl x6_41_3), some (.inl 1), some (.inl 29), some (.inl 0), some (.inl 1)]) rfl rfl rfl ?_
                                            exfalso; omega
                                    · first
                                      | (exfalso; omega)
                                      | skip
                                        refine jv_iconst rfl rfl ?_
                                        refine jv_goto rfl rfl ?_
                                        refine jv_istoreK (L2 := [some (.inr (.inr 94)), some (.inl c), some (.inl r), some (.inl a), some (.inl q), some (.inl 0), some (.inl x6_41_3), some (.inl 1), some (.inl 5), none, none]) rfl rfl rfl ?_
                                        refine jv_iconst rfl rfl ?_
                                        refine jv_istoreK (L2 := [some (.inr (.inr 94)), some (.inl c), some (.inl r), some (.inl a), some (.inl q), some (.inl 0), some (.inl x6_41_3), some (.inl 1), some (.inl 5), some (.inl 0), none]) rfl rfl rfl ?_
                                        refine jv_iload rfl rfl rfl ?_
                                        refine jv_istoreK (L2 := [some (.inr (.inr 94)), some (.inl c), some (.inl r), some (.inl a), some (.inl q), some (.inl 0), some (.inl x6_41_3), some (.inl 1), some (.inl 5), some (.inl 0), some (.inl 1)]) rfl rfl rfl ?_
                                        exfalso; omega
                            · first
                              | (exfalso; omega)
                              | skip
                                refine jv_iload rfl rfl rfl ?_
                                refine jv_iconst rfl rfl ?_
                                refine jv_icmp_ne rfl rfl rfl (fun c46_3 => ?_) (fun c46_3 => ?_)
                                · first
                                  | (exfalso; omega)
                                  | skip
                                    refine jv_iconst rfl rfl ?_
                                    refine jv_istoreK (L2 := [some (.inr (.inr 94)), some (.inl c), some (.inl r), some (.inl a), some (.inl q), some (.inl 0), some (.inl x6_41_3), some (.inl 0), none, none, none]) rfl rfl rfl ?_
                                    refine jv_iload rfl rfl rfl ?_
                                    refine jv_if_eq rfl rfl rfl (fun c52_10 => ?_) (fun c52_10 => ?_)
                                    · first
                                      | (exfalso; omega)
                                      | skip
                                        refine jv_iconst rfl rfl ?_
                                        refine jv_goto rfl rfl ?_
                                        refine jv_istoreK (L2 := [some (.inr (.inr 94)), some (.inl c), some (.inl r), some (.inl a), some (.inl q), some (.inl 0), some (.inl x6_41_3), some (.inl 0), some (.inl 5), none, none]) rfl rfl rfl ?_
                                        refine jv_iconst rfl rfl ?_
                                        refine jv_istoreK (L2 := [some (.inr (.inr 94)), some (.inl c), some (.inl r), some (.inl a), some (.inl q), some (.inl 0), some (.inl x6_41_3), some (.inl 0), some (.inl 5), some (.inl 0), none]) rfl rfl rfl ?_
                                        refine jv_iload rfl rfl rfl ?_
                                        refine jv_istoreK (L2 := [some (.inr (.inr 94)), some (.inl c), some (.inl r), some (.inl a), some (.inl q), some (.inl 0), some (.inl x6_41_3), some (.inl 0), some (.inl 5), some (.inl 0), some (.inl 0)]) rfl rfl rfl ?_
                                        exfalso; omega
                                    · first
                                      | (exfalso; omega)
                                      | skip
                                        refine jv_iload rfl rfl rfl ?_
                                        refine jv_iconst rfl rfl ?_
                                        refine jv_icmp_ne rfl rfl rfl (fun c55_10 => ?_) (fun c55_10 => ?_)
                                        · first
                                          | (exfalso; omega)
                                          | skip
                                            refine jv_iload rfl rfl rfl ?_
                                            refine jv_iconst rfl rfl ?_
                                            refine jv_icmp_ne rfl rfl rfl (fun c60_10 => ?_) (fun c60_10 => ?_)
                                            · first
                                              | (exfalso; omega)
                                              | skip
                                                refine jv_bipush rfl rfl ?_
                                                refine jv_istoreK (L2 := [some (.inr (.inr 94)), some (.inl c), some (.inl r), some (.inl a), some (.inl q), some (.inl 0), some (.inl x6_41_3), some (.inl 0), some (.inl 9), none, none]) rfl rfl rfl ?_
                                                refine jv_iconst rfl rfl ?_
                                                refine jv_istoreK (L2 := [some (.inr (.inr 94)), some (.inl c), some (.inl r), some (.inl a), some (.inl q), some (.inl 0), some (.inl x6_41_3), some (.inl 0), some (.inl 9), some (.inl 0), none]) rfl rfl rfl ?_
                                                refine jv_iload rfl rfl rfl ?_
                                                refine jv_istoreK (L2 := [some (.inr (.inr 94)), some (.inl c), some (.inl r), some (.inl a), some (.inl q), some (.inl 0), some (.inl x6_41_3), some (.inl 0), some (.inl 9), some (.inl 0), some (.inl 0)]) rfl rfl rfl ?_
                                                exfalso; omega
                                            · first
                                              | (exfalso; omega)
                                              | skip
                                                refine jv_bipush rfl rfl ?_
                                                refine jv_goto rfl rfl ?_
                                                refine jv_istoreK (L2 := [some (.inr (.inr 94)), some (.inl c), some (.inl r), some (.inl a), some (.inl q), some (.inl 0), some (.inl x6_41_3), some (.inl 0), some (.inl 29), none, none]) rfl rfl rfl ?_
                                                refine jv_iconst rfl rfl ?_
                                                refine jv_istoreK (L2 := [some (.inr (.inr 94)), some (.inl c), some (.inl r), some (.inl a), some (.inl q), some (.inl 0), some (.inl x6_41_3), some (.inl 0), some (.inl 29), some (.inl 0), none]) rfl rfl rfl ?_
                                                refine jv_iload rfl rfl rfl ?_
                                                refine jv_istoreK (L2 := [some (.inr (.inr 94)), some (.inl c), some (.inl r), some (.inl a), some (.inl q), some (.inl 0), some (.inl x6_41_3), some (.inl 0), some (.inl 29), some (.inl 0), some (.inl 0)]) rfl rfl rfl ?_
                                                exfalso; omega
                                        · first
                                          | (exfalso; omega)
                                          | skip
                                            refine jv_iconst rfl rfl ?_
                                            refine jv_goto rfl rfl ?_
                                            refine jv_istoreK (L2 := [some (.inr (.inr 94)), some (.inl c), some (.inl r), some (.inl a), some (.inl q), some (.inl 0), some (.inl x6_41_3), some (.inl 0), some (.inl 5), none, none]) rfl rfl rfl ?_
                                            refine jv_iconst rfl rfl ?_
                                            refine jv_istoreK (L2 := [some (.inr (.inr 94)), some (.inl c), some (.inl r), some (.inl a), some (.inl q), some (.inl 0), some (.inl x6_41_3), some (.inl 0), some (.inl 5), some (.inl 0), none]) rfl rfl rfl ?_
                                            refine jv_iload rfl rfl rfl ?_
                                            refine jv_istoreK (L2 := [some (.inr (.inr 94)), some (.inl c), some (.inl r), some (.inl a), some (.inl q), some (.inl 0), some (.inl x6_41_3), some (.inl 0), some (.inl 5), some (.inl 0), some (.inl 0)]) rfl rfl rfl ?_
                                            exfalso; omega
                                · first
                                  | (exfalso; omega)
                                  | skip
                                    refine jv_iconst rfl rfl ?_
                                    refine jv_goto rfl rfl ?_
                                    refine jv_istoreK (L2 := [some (.inr (.inr 94)), some (.inl c), some (.inl r), some (.inl a), some (.inl q), some (.inl 0), some (.inl x6_41_3), some (.inl 1), none, none, none]) rfl rfl rfl ?_
                                    refine jv_iload rfl rfl rfl ?_
                                    refine jv_if_eq rfl rfl rfl (fun c52_11 => ?_) (fun c52_11 => ?_)
                                    · first
                                      | (exfalso; omega)
                                      | skip
                                        refine jv_iconst rfl rfl ?_
                                        refine jv_goto rfl rfl ?_
                                        refine jv_istoreK (L2 := [some (.inr (.inr 94)), some (.inl c), some (.inl r), some (.inl a), some (.inl q), some (.inl 0), some (.inl x6_41_3), some (.inl 1), some (.inl 5), none, none]) rfl rfl rfl ?_
                                        refine jv_iconst rfl rfl ?_
                                        refine jv_istoreK (L2 := [some (.inr (.inr 94)), some (.inl c), some (.inl r), some (.inl a), some (.inl q), some (.inl 0), some (.inl x6_41_3), some (.inl 1), some (.inl 5), some (.inl 0), none]) rfl rfl rfl ?_
                                        refine jv_iload rfl rfl rfl ?_
                                        refine jv_istoreK (L2 := [some (.inr (.inr 94)), some (.inl c), some (.inl r), some (.inl a), some (.inl q), some (.inl 0), some (.inl x6_41_3), some (.inl 1), some (.inl 5), some (.inl 0), some (.inl 1)]) rfl rfl rfl ?_
                                        exfalso; omega
                                    · first
                                      | (exfalso; omega)
                                      | skip
                                        refine jv_iload rfl rfl rfl ?_
                                        refine jv_iconst rfl rfl ?_
                                        refine jv_icmp_ne rfl rfl rfl (fun c55_11 => ?_) (fun c55_11 => ?_)
                                        · first
                                          | (exfalso; omega)
                                          | skip
                                            refine jv_iload rfl rfl rfl ?_
                                            refine jv_iconst rfl rfl ?_
                                            refine jv_icmp_ne rfl rfl rfl (fun c60_11 => ?_) (fun c60_11 => ?_)
                                            · first
                                              | (exfalso; omega)
                                              | skip
                                                refine jv_bipush rfl rfl ?_
                                                refine jv_istoreK (L2 := [some (.inr (.inr 94)), some (.inl c), some (.inl r), some (.inl a), some (.inl q), some (.inl 0), some (.inl x6_41_3), some (.inl 1), some (.inl 9), none, none]) rfl rfl rfl ?_
                                                refine jv_iconst rfl rfl ?_
                                                refine jv_istoreK (L2 := [some (.inr (.inr 94)), some (.inl c), some (.inl r), some (.inl a), some (.inl q), some (.inl 0), some (.inl x6_41_3), some (.inl 1), some (.inl 9), some (.inl 0), none]) rfl rfl rfl ?_
                                                refine jv_iload rfl rfl rfl ?_
                                                refine jv_istoreK (L2 := [some (.inr (.inr 94)), some (.inl c), some (.inl r), some (.inl a), some (.inl q), some (.inl 0), some (.inl x6_41_3), some (.inl 1), some (.inl 9), some (.inl 0), some (.inl 1)]) rfl rfl rfl ?_
                                                exfalso; omega
                                            · first
                                              | (exfalso; omega)
                                              | skip
                                                refine jv_bipush rfl rfl ?_
                                                refine jv_goto rfl rfl ?_
                                                refine jv_istoreK (L2 := [some (.inr (.inr 94)), some (.inl c), some (.inl r), some (.inl a), some (.inl q), some (.inl 0), some (.inl x6_41_3), some (.inl 1), some (.inl 29), none, none]) rfl rfl rfl ?_
                                                refine jv_iconst rfl rfl ?_
                                                refine jv_istoreK (L2 := [some (.inr (.inr 94)), some (.inl c), some (.inl r), some (.inl a), some (.inl q), some (.inl 0), some (.inl x6_41_3), some (.inl 1), some (.inl 29), some (.inl 0), none]) rfl rfl rfl ?_
                                                refine jv_iload rfl rfl rfl ?_
                                                refine jv_istoreK (L2 := [some (.inr (.inr 94)), some (.inl c), some (.inl r), some (.inl a), some (.inl q), some (.inl 0), some (.inl x6_41_3), some (.inl 1), some (.inl 29), some (.inl 0), some (.inl 1)]) rfl rfl rfl ?_
                                                exfalso; omega
                                        · first
                                          | (exfalso; omega)
                                          | skip
                                            refine jv_iconst rfl rfl ?_
                                            refine jv_goto rfl rfl ?_
                                            refine jv_istoreK (L2 := [some (.inr (.inr 94)), some (.inl c), some (.inl r), some (.inl a), some (.inl q), some (.inl 0), some (.inl x6_41_3), some (.inl 1), some (.inl 5), none, none]) rfl rfl rfl ?_
                                            refine jv_iconst rfl rfl ?_
                                            refine jv_istoreK (L2 := [some (.inr (.inr 94)), some (.inl c), some (.inl r), some (.inl a), some (.inl q), some (.inl 0), some (.inl x6_41_3), some (.inl 1), some (.inl 5), some (.inl 0), none]) rfl rfl rfl ?_
                                            refine jv_iload rfl rfl rfl ?_
                                            refine jv_istoreK (L2 := [some (.inr (.inr 94)), some (.inl c), some (.inl r), some (.inl a), some (.inl q), some (.inl 0), some (.inl x6_41_3), some (.inl 1), some (.inl 5), some (.inl 0), some (.inl 1)]) rfl rfl rfl ?_
                                            exfalso; omega
                    · first
                      | (exfalso; omega)
                      | skip
                        show jV _ _ jm_p_X10_fits _ 19 [some (.inr (.inr 94)), some (.inl c), some (.inl r), some (.inl a), some (.inl q), none, none, none, none, none, none] [.inl (-1000012)] ν18_1
                        refine jv_istoreK (L2 := [some (.inr (.inr 94)), some (.inl c), some (.inl r), some (.inl a), some (.inl q), some (.inl (-1000012)), none, none, none, none, none]) rfl rfl rfl ?_
                        refine jv_iload rfl rfl rfl ?_
                        refine jv_if_eqF rfl rfl (by decide) ?_
                        refine jv_iload rfl rfl rfl ?_
                        refine jv_ireturn rfl (Or.inl rfl) ?_
                        exact ⟨jv_one (by omega), by exfalso; omega⟩
                · first
                  | (exfalso; omega)
                  | skip
                    show jV _ _ jm_p_X10_fits _ 12 [some (.inr (.inr 94)), some (.inl c), some (.inl r), some (.inl a), some (.inl q), none, none, none, none, none, none] [.inl 0] μ
                    refine jv_if_neF rfl rfl (by decide) ?_
                    refine jv_ldc rfl rfl ?_
                    refine jv_ireturn rfl (Or.inl rfl) ?_
                    exact ⟨jv_one (by omega), hI⟩
            · first
              | (exfalso; omega)
              | skip
                show jV _ _ jm_p_X10_fits _ 6 [some (.inr (.inr 94)), some (.inl c), some (.inl r), some (.inl a), some (.inl q), none, none, none, none, none, none] [.inl 0] μ
                refine jv_if_eqT rfl rfl (by decide) ?_
                refine jv_ldc rfl rfl ?_
                refine jv_ireturn rfl (Or.inl rfl) ?_
                exact ⟨jv_one (by omega), hI⟩
        · first
          | (exfalso; omega)
          | skip
            show jV _ _ jm_p_X10_fits _ 3 [some (.inr (.inr 94)), some (.inl c), some (.inl r), some (.inl a), some (.inl q), none, none, none, none, none, none] [.inl 0] μ
            refine jv_if_eqT rfl rfl (by decide) ?_
            refine jv_ldc rfl rfl ?_
            refine jv_ireturn rfl (Or.inl rfl) ?_
            exact ⟨jv_one (by omega), hI⟩
      · refine jv_iload rfl rfl rfl ?_
        refine jv_iconst rfl rfl ?_
        refine jv_icmp_lt rfl rfl rfl (fun c11 => ?_) (fun c11 => ?_)
        · refine jv_aload_n rfl rfl rfl (by decide) ?_
          refine jv_iload_n rfl rfl rfl ?_
          refine jv_iload_n rfl rfl rfl ?_
          refine jv_callV2 rfl rfl rfl rfl ⟨by decide, rfl⟩ (Nat.le_of_ble_eq_true rfl) (cl_matRow (by omega) (by omega) (by omega) (fun h17_0 => ?_) (fun h17_0 h17_1 => ?_) (fun h17_0 h17_1 => ?_))
          · show jV _ _ jm_p_X9_fits _ 18 [some (.inr (.inr 0)), some (.inl c), some (.inl r), some (.inl a), some (.inl q), none] [.inl 1] μ
            refine jv_istoreK (L2 := [some (.inr (.inr 0)), some (.inl c), some (.inl r), some (.inl a), some (.inl q), some (.inl 1)]) rfl rfl rfl ?_
            refine jv_iload rfl rfl rfl ?_
            refine jv_if_eqF rfl rfl (by decide) ?_
            refine jv_aload_n rfl rfl rfl (by decide) ?_
            refine jv_iload rfl rfl rfl ?_
            refine jv_callV1 rfl rfl rfl rfl ⟨by decide, rfl⟩ (Nat.le_of_ble_eq_true rfl) (cl_found (by omega) (fun μ23 eμ23 => ?_))
            show jV _ _ jm_p_X9_fits _ 24 [some (.inr (.inr 0)), some (.inl c), some (.inl r), some (.inl a), some (.inl q), some (.inl 1)] [.inl (-1000010 - 1)] μ23
            refine jv_ireturn rfl (Or.inl rfl) ?_
            refine ⟨_, rfl, ?_⟩
            have g0 : μ23 95 = μ 95 := by rw [eμ23]; rfl
            have g00 : μ23 95 0 = μ 95 0 := by rw [g0]
            have g01 : μ23 95 1 = μ 95 1 := by rw [g0]
            have g98 : μ23 98 r = μ 98 r := by rw [eμ23]; rfl
            have g94 : μ23 94 1 = μ 94 1 := by rw [eμ23]; rfl
            refine jv_enter (d := 199) jm_p_X10_fits [some (.inr (.inr 94)), some (.inl c), some (.inl r), some (.inl a), some (.inl q), none, none, none, none, none, none] rfl rfl rfl (Nat.le_of_ble_eq_true rfl) rfl rfl ?_
            refine jv_aload_n rfl rfl rfl (by decide) ?_
            refine jv_iload_n rfl rfl rfl ?_
            refine jv_callV1 rfl rfl rfl rfl ⟨by decide, rfl⟩ (Nat.le_of_ble_eq_true rfl) (mo_isComer (by omega) (fun b2 => ?_) (fun b2 => ?_))
            · first
              | (exfalso; omega)
              | skip
                show jV _ _ jm_p_X10_fits _ 3 [some (.inr (.inr 94)), some (.inl c), some (.inl r), some (.inl a), some (.inl q), none, none, none, none, none, none] [.inl 1] μ23
                refine jv_if_eqF rfl rfl (by decide) ?_
                refine jv_iload_n rfl rfl rfl ?_
                refine jv_callS1 rfl rfl rfl (Nat.le_of_ble_eq_true rfl) (mo_isRow (fun b5 => ?_) (fun b5 => ?_))
                · first
                  | (exfalso; omega)
                  | skip
                    show jV _ _ jm_p_X10_fits _ 6 [some (.inr (.inr 94)), some (.inl c), some (.inl r), some (.inl a), some (.inl q), none, none, none, none, none, none] [.inl 1] μ23
                    refine jv_if_eqF rfl rfl (by decide) ?_
                    refine jv_iload rfl rfl rfl ?_
                    refine jv_i2l rfl rfl ?_
                    refine jv_lconst rfl rfl ?_
                    refine jv_ldc2_w rfl rfl ?_
                    refine jv_callS3 rfl rfl rfl (Nat.le_of_ble_eq_true rfl) (mo_in (fun b11 => ?_) (fun b11 => ?_))
                    · first
                      | (exfalso; omega)
                      | skip
                        show jV _ _ jm_p_X10_fits _ 12 [some (.inr (.inr 94)), some (.inl c), some (.inl r), some (.inl a), some (.inl q), none, none, none, none, none, none] [.inl 1] μ23
                        refine jv_if_neT rfl rfl (by decide) ?_
                        refine jv_aload_n rfl rfl rfl (by decide) ?_
                        refine jv_iload_n rfl rfl rfl ?_
                        refine jv_iload_n rfl rfl rfl ?_
                        refine jv_callV2 rfl rfl rfl rfl ⟨by decide, rfl⟩ (Nat.le_of_ble_eq_true rfl) (mo_noItems (by omega) (by omega) (by omega) (by omega) (fun h18_0 ν18 eν18 => ?_) (fun h18_0 h18_1 => ?_) (fun h18_0 h18_1 ν18_1 eν18_1 => ?_))
                        · first
                          | (exfalso; omega)
                          | skip
                            show jV _ _ jm_p_X10_fits _ 19 [some (.inr (.inr 94)), some (.inl c), some (.inl r), some (.inl a), some (.inl q), none, none, none, none, none, none] [.inl (-1000011)] ν18
                            refine jv_istoreK (L2 := [some (.inr (.inr 94)), some (.inl c), some (.inl r), some (.inl a), some (.inl q), some (.inl (-1000011)), none, none, none, none, none]) rfl rfl rfl ?_
                            refine jv_iload rfl rfl rfl ?_
                            refine jv_if_eqF rfl rfl (by decide) ?_
                            refine jv_iload rfl rfl rfl ?_
                            refine jv_ireturn rfl (Or.inl rfl) ?_
                            exact ⟨jv_one (by omega), jI_find hI eμ23 eν18⟩
                        · first
                          | (exfalso; omega)
                          | skip
                            show jV _ _ jm_p_X10_fits _ 19 [some (.inr (.inr 94)), some (.inl c), some (.inl r), some (.inl a), some (.inl q), none, none, none, none, none, none] [.inl 0] μ23
                            refine jv_istoreK (L2 := [some (.inr (.inr 94)), some (.inl c), some (.inl r), some (.inl a), some (.inl q), some (.inl 0), none, none, none, none, none]) rfl rfl rfl ?_
                            refine jv_iload rfl rfl rfl ?_
                            refine jv_if_eqT rfl rfl (by decide) ?_
                            refine jv_iload rfl rfl rfl ?_
                            refine jv_if_ne rfl rfl rfl (fun c25 => ?_) (fun c25 => ?_)
                            · first
                              | (exfalso; omega)
                              | skip
                                refine jv_iload rfl rfl rfl ?_
                                refine jv_iconst rfl rfl ?_
                                refine jv_icmp_ne rfl rfl rfl (fun c30 => ?_) (fun c30 => ?_)
                                · first
                                  | (exfalso; omega)
                                  | skip
                                    refine jv_iload rfl rfl rfl ?_
                                    refine jv_iconst rfl rfl ?_
                                    refine jv_icmp_ne rfl rfl rfl (fun c35 => ?_) (fun c35 => ?_)
                                    · first
                                      | (exfalso; omega)
                                      | skip
                                        refine jv_bipush rfl rfl ?_
                                        refine jv_iload_n rfl rfl rfl ?_
                                        refine jv_iadd rfl rfl ⟨by omega, by omega⟩ ?_
                                        refine jv_istore (fun x => [some (.inr (.inr 94)), some (.inl c), some (.inl r), some (.inl a), some (.inl q), some (.inl 0), some (.inl x), none, none, none, none]) rfl rfl (fun _ => rfl) (fun x6_41 ex6_41 => ?_)
                                        refine jv_iload rfl rfl rfl ?_
                                        refine jv_if_eq rfl rfl rfl (fun c43 => ?_) (fun c43 => ?_)
                                        · first
                                          | (exfalso; omega)
                                          | skip
                                            refine jv_iconst rfl rfl ?_
                                            refine jv_goto rfl rfl ?_
                                            refine jv_istoreK (L2 := [some (.inr (.inr 94)), some (.inl c), some (.inl r), some (.inl a), some (.inl q), some (.inl 0), some (.inl x6_41), some (.inl 1), none, none, none]) rfl rfl rfl ?_
                                            refine jv_iload rfl rfl rfl ?_
                                            refine jv_if_eq rfl rfl rfl (fun c52 => ?_) (fun c52 => ?_)
                                            · first
                                              | (exfalso; omega)
                                              | skip
                                                refine jv_iconst rfl rfl ?_
                                                refine jv_goto rfl rfl ?_
                                                refine jv_istoreK (L2 := [some (.inr (.inr 94)), some (.inl c), some (.inl r), some (.inl a), some (.inl q), some (.inl 0), some (.inl x6_41), some (.inl 1), some (.inl 5), none, none]) rfl rfl rfl ?_
                                                refine jv_iconst rfl rfl ?_
                                                refine jv_istoreK (L2 := [some (.inr (.inr 94)), some (.inl c), some (.inl r), some (.inl a), some (.inl q), some (.inl 0), some (.inl x6_41), some (.inl 1), some (.inl 5), some (.inl 0), none]) rfl rfl rfl ?_
                                                refine jv_iload rfl rfl rfl ?_
                                                refine jv_istoreK (L2 := [some (.inr (.inr 94)), some (.inl c), some (.inl r), some (.inl a), some (.inl q), some (.inl 0), some (.inl x6_41), some (.inl 1), some (.inl 5), some (.inl 0), some (.inl 1)]) rfl rfl rfl ?_
                                                exfalso; omega
                                            · first
                                              | (exfalso; omega)
                                              | skip
                                                refine jv_iload rfl rfl rfl ?_
                                                refine jv_iconst rfl rfl ?_
                                                refine jv_icmp_ne rfl rfl rfl (fun c55 => ?_) (fun c55 => ?_)
                                                · first
                                                  | (exfalso; omega)
                                                  | skip
                                                    refine jv_iload rfl rfl rfl ?_
                                                    refine jv_iconst rfl rfl ?_
                                                    refine jv_icmp_ne rfl rfl rfl (fun c60 => ?_) (fun c60 => ?_)
                                                    · first
                                                      | (exfalso; omega)
                                                      | skip
                                                        refine jv_bipush rfl rfl ?_
                                                        refine jv_istoreK (L2 := [some (.inr (.inr 94)), some (.inl c), some (.inl r), some (.inl a), some (.inl q), some (.inl 0), some (.inl x6_41), some (.inl 1), some (.inl 9), none, none]) rfl rfl rfl ?_
                                                        refine jv_iconst rfl rfl ?_
                                                        refine jv_istoreK (L2 := [some (.inr (.inr 94)), some (.inl c), some (.inl r), some (.inl a), some (.inl q), some (.inl 0), some (.inl x6_41), some (.inl 1), some (.inl 9), some (.inl 0), none]) rfl rfl rfl ?_
                                                        refine jv_iload rfl rfl rfl ?_
                                                        refine jv_istoreK (L2 := [some (.inr (.inr 94)), some (.inl c), some (.inl r), some (.inl a), some (.inl q), some (.inl 0), some (.inl x6_41), some (.inl 1), some (.inl 9), some (.inl 0), some (.inl 1)]) rfl rfl rfl ?_
                                                        exfalso; omega
                                                    · first
                                                      | (exfalso; omega)
                                                      | skip
                                                        refine jv_bipush rfl rfl ?_
                                                        refine jv_goto rfl rfl ?_
                                                        refine jv_istoreK (L2 := [some (.inr (.inr 94)), some (.inl c), some (.inl r), some (.inl a), some (.inl q), some (.inl 0), some (.inl x6_41), some (.inl 1), some (.inl 29), none, none]) rfl rfl rfl ?_
                                                        refine jv_iconst rfl rfl ?_
                                                        refine jv_istoreK (L2 := [some (.inr (.inr 94)), some (.inl c), some (.inl r), some (.inl a), some (.inl q), some (.inl 0), some (.inl x6_41), some (.inl 1), some (.inl 29), some (.inl 0), none]) rfl rfl rfl ?_
                                                        refine jv_iload rfl rfl rfl ?_
                                                        refine jv_istoreK (L2 := [some (.inr (.inr 94)), some (.inl c), some (.inl r), some (.inl a), some (.inl q), some (.inl 0), some (.inl x6_41), some (.inl 1), some (.inl 29), some (.inl 0), some (.inl 1)]) rfl rfl rfl ?_
                                                        exfalso; omega
                                                · first
                                                  | (exfalso; omega)
                                                  | skip
                                                    refine jv_iconst rfl rfl ?_
                                                    refine jv_goto rfl rfl ?_
                                                    refine jv_istoreK (L2 := [some (.inr (.inr 94)), some (.inl c), some (.inl r), some (.inl a), some (.inl q), some (.inl 0), some (.inl x6_41), some (.inl 1), some (.inl 5), none, none]) rfl rfl rfl ?_
                                                    refine jv_iconst rfl rfl ?_
                                                    refine jv_istoreK (L2 := [some (.inr (.inr 94)), some (.inl c), some (.inl r), some (.inl a), some (.inl q), some (.inl 0), some (.inl x6_41), some (.inl 1), some (.inl 5), some (.inl 0), none]) rfl rfl rfl ?_
                                                    refine jv_iload rfl rfl rfl ?_
                                                    refine jv_istoreK (L2 := [some (.inr (.inr 94)), some (.inl c), some (.inl r), some (.inl a), some (.inl q), some (.inl 0), some (.inl x6_41), some (.inl 1), some (.inl 5), some (.inl 0), some (.inl 1)]) rfl rfl rfl ?_
                                                    exfalso; omega
                                        · first
                                          | (exfalso; omega)
                                          | skip
                                            refine jv_iload rfl rfl rfl ?_
                                            refine jv_iconst rfl rfl ?_
                                            refine jv_icmp_ne rfl rfl rfl (fun c46 => ?_) (fun c46 => ?_)
                                            · first
                                              | (exfalso; omega)
                                              | skip
                                                refine jv_iconst rfl rfl ?_
                                                refine jv_istoreK (L2 := [some (.inr (.inr 94)), some (.inl c), some (.inl r), some (.inl a), some (.inl q), some (.inl 0), some (.inl x6_41), some (.inl 0), none, none, none]) rfl rfl rfl ?_
                                                refine jv_iload rfl rfl rfl ?_
                                                refine jv_if_eq rfl rfl rfl (fun c52_1 => ?_) (fun c52_1 => ?_)
                                                · first
                                                  | (exfalso; omega)
                                                  | skip
                                                    refine jv_iconst rfl rfl ?_
                                                    refine jv_goto rfl rfl ?_
                                                    refine jv_istoreK (L2 := [some (.inr (.inr 94)), some (.inl c), some (.inl r), some (.inl a), some (.inl q), some (.inl 0), some (.inl x6_41), some (.inl 0), some (.inl 5), none, none]) rfl rfl rfl ?_
                                                    refine jv_iconst rfl rfl ?_
                                                    refine jv_istoreK (L2 := [some (.inr (.inr 94)), some (.inl c), some (.inl r), some (.inl a), some (.inl q), some (.inl 0), some (.inl x6_41), some (.inl 0), some (.inl 5), some (.inl 0), none]) rfl rfl rfl ?_
                                                    refine jv_iload rfl rfl rfl ?_
                                                    refine jv_istoreK (L2 := [some (.inr (.inr 94)), some (.inl c), some (.inl r), some (.inl a), some (.inl q), some (.inl 0), some (.inl x6_41), some (.inl 0), some (.inl 5), some (.inl 0), some (.inl 0)]) rfl rfl rfl ?_
                                                    exfalso; omega
                                                · first
                                                  | (exfalso; omega)
                                                  | skip
                                                    refine jv_iload rfl rfl rfl ?_
                                                    refine jv_iconst rfl rfl ?_
                                                    refine jv_icmp_ne rfl rfl rfl (fun c55_1 => ?_) (fun c55_1 => ?_)
                                                    · first
                                                      | (exfalso; omega)
                                                      | skip
                                                        refine jv_iload rfl rfl rfl ?_
                                                        refine jv_iconst rfl rfl ?_
                                                        refine jv_icmp_ne rfl rfl rfl (fun c60_1 => ?_) (fun c60_1 => ?_)
                                                        · first
                                                          | (exfalso; omega)
                                                          | skip
                                                            refine jv_bipush rfl rfl ?_
                                                            refine jv_istoreK (L2 := [some (.inr (.inr 94)), some (.inl c), some (.inl r), some (.inl a), some (.inl q), some (.inl 0), some (.inl x6_41), some (.inl 0), some (.inl 9), none, none]) rfl rfl rfl ?_
                                                            refine jv_iconst rfl rfl ?_
                                                            refine jv_istoreK (L2 := [some (.inr (.inr 94)), some (.inl c), some (.inl r), some (.inl a), some (.inl q), some (.inl 0), some (.inl x6_41), some (.inl 0), some (.inl 9), some (.inl 0), none]) rfl rfl rfl ?_
                                                            refine jv_iload rfl rfl rfl ?_
                                                            refine jv_istoreK (L2 := [some (.inr (.inr 94)), some (.inl c), some (.inl r), some (.inl a), some (.inl q), some (.inl 0), some (.inl x6_41), some (.inl 0), some (.inl 9), some (.inl 0), some (.inl 0)]) rfl rfl rfl ?_
                                                            exfalso; omega
                                                        · first
                                                          | (exfalso; omega)
                                                          | skip
                                                            refine jv_bipush rfl rfl ?_
                                                            refine jv_goto rfl rfl ?_
                                                            refine jv_istoreK (L2 := [some (.inr (.inr 94)), some (.inl c), some (.inl r), some (.inl a), some (.inl q), some (.inl 0), some (.inl x6_41), some (.inl 0), some (.inl 29), none, none]) rfl rfl rfl ?_
                                                            refine jv_iconst rfl rfl ?_
                                                            refine jv_istoreK (L2 := [some (.inr (.inr 94)), some (.inl c), some (.inl r), some (.inl a), some (.inl q), some (.inl 0), some (.inl x6_41), some (.inl 0), some (.inl 29), some (.inl 0), none]) rfl rfl rfl ?_
                                                            refine jv_iload rfl rfl rfl ?_
                                                            refine jv_istoreK (L2 := [some (.inr (.inr 94)), some (.inl c), some (.inl r), some (.inl a), some (.inl q), some (.inl 0), some (.inl x6_41), some (.inl 0), some (.inl 29), some (.inl 0), some (.inl 0)]) rfl rfl rfl ?_
                                                            exfalso; omega
                                                    · first
                                                      | (exfalso; omega)
                                                      | skip
                                                        refine jv_iconst rfl rfl ?_
                                                        refine jv_goto rfl rfl ?_
                                                        refine jv_istoreK (L2 := [some (.inr (.inr 94)), some (.inl c), some (.inl r), some (.inl a), some (.inl q), some (.inl 0), some (.inl x6_41), some (.inl 0), some (.inl 5), none, none]) rfl rfl rfl ?_
                                                        refine jv_iconst rfl rfl ?_
                                                        refine jv_istoreK (L2 := [some (.inr (.inr 94)), some (.inl c), some (.inl r), some (.inl a), some (.inl q), some (.inl 0), some (.inl x6_41), some (.inl 0), some (.inl 5), some (.inl 0), none]) rfl rfl rfl ?_
                                                        refine jv_iload rfl rfl rfl ?_
                                                        refine jv_istoreK (L2 := [some (.inr (.inr 94)), some (.inl c), some (.inl r), some (.inl a), some (.inl q), some (.inl 0), some (.inl x6_41), some (.inl 0), some (.inl 5), some (.inl 0), some (.inl 0)]) rfl rfl rfl ?_
                                                        exfalso; omega
                                            · first
                                              | (exfalso; omega)
                                              | skip
                                                refine jv_iconst rfl rfl ?_
                                                refine jv_goto rfl rfl ?_
                                                refine jv_istoreK (L2 := [some (.inr (.inr 94)), some (.inl c), some (.inl r), some (.inl a), some (.inl q), some (.inl 0), some (.inl x6_41), some (.inl 1), none, none, none]) rfl rfl rfl ?_
                                                refine jv_iload rfl rfl rfl ?_
                                                refine jv_if_eq rfl rfl rfl (fun c52_2 => ?_) (fun c52_2 => ?_)
                                                · first
                                                  | (exfalso; omega)
                                                  | skip
                                                    refine jv_iconst rfl rfl ?_
                                                    refine jv_goto rfl rfl ?_
                                                    refine jv_istoreK (L2 := [some (.inr (.inr 94)), some (.inl c), some (.inl r), some (.inl a), some (.inl q), some (.inl 0), some (.inl x6_41), some (.inl 1), some (.inl 5), none, none]) rfl rfl rfl ?_
                                                    refine jv_iconst rfl rfl ?_
                                                    refine jv_istoreK (L2 := [some (.inr (.inr 94)), some (.inl c), some (.inl r), some (.inl a), some (.inl q), some (.inl 0), some (.inl x6_41), some (.inl 1), some (.inl 5), some (.inl 0), none]) rfl rfl rfl ?_
                                                    refine jv_iload rfl rfl rfl ?_
                                                    refine jv_istoreK (L2 := [some (.inr (.inr 94)), some (.inl c), some (.inl r), some (.inl a), some (.inl q), some (.inl 0), some (.inl x6_41), some (.inl 1), some (.inl 5), some (.inl 0), some (.inl 1)]) rfl rfl rfl ?_
                                                    exfalso; omega
                                                · first
                                                  | (exfalso; omega)
                                                  | skip
                                                    refine jv_iload rfl rfl rfl ?_
                                                    refine jv_iconst rfl rfl ?_
                                                    refine jv_icmp_ne rfl rfl rfl (fun c55_2 => ?_) (fun c55_2 => ?_)
                                                    · first
                                                      | (exfalso; omega)
                                                      | skip
                                                        refine jv_iload rfl rfl rfl ?_
                                                        refine jv_iconst rfl rfl ?_
                                                        refine jv_icmp_ne rfl rfl rfl (fun c60_2 => ?_) (fun c60_2 => ?_)
                                                        · first
                                                          | (exfalso; omega)
                                                          | skip
                                                            refine jv_bipush rfl rfl ?_
                                                            refine jv_istoreK (L2 := [some (.inr (.inr 94)), some (.inl c), some (.inl r), some (.inl a), some (.inl q), some (.inl 0), some (.inl x6_41), some (.inl 1), some (.inl 9), none, none]) rfl rfl rfl ?_
                                                            refine jv_iconst rfl rfl ?_
                                                            refine jv_istoreK (L2 := [some (.inr (.inr 94)), some (.inl c), some (.inl r), some (.inl a), some (.inl q), some (.inl 0), some (.inl x6_41), some (.inl 1), some (.inl 9), some (.inl 0), none]) rfl rfl rfl ?_
                                                            refine jv_iload rfl rfl rfl ?_
                                                            refine jv_istoreK (L2 := [some (.inr (.inr 94)), some (.inl c), some (.inl r), some (.inl a), some (.inl q), some (.inl 0), some (.inl x6_41), some (.inl 1), some (.inl 9), some (.inl 0), some (.inl 1)]) rfl rfl rfl ?_
                                                            exfalso; omega
                                                        · first
                                                          | (exfalso; omega)
                                                          | skip
                                                            refine jv_bipush rfl rfl ?_
                                                            refine jv_goto rfl rfl ?_
                                                            refine jv_istoreK (L2 := [some (.inr (.inr 94)), some (.inl c), some (.inl r), some (.inl a), some (.inl q), some (.inl 0), some (.inl x6_41), some (.inl 1), some (.inl 29), none, none]) rfl rfl rfl ?_
                                                            refine jv_iconst rfl rfl ?_
                                                            refine jv_istoreK (L2 := [some (.inr (.inr 94)), some (.inl c), some (.inl r), some (.inl a), some (.inl q), some (.inl 0), some (.inl x6_41), some (.inl 1), some (.inl 29), some (.inl 0), none]) rfl rfl rfl ?_
                                                            refine jv_iload rfl rfl rfl ?_
                                                            refine jv_istoreK (L2 := [some (.inr (.inr 94)), some (.inl c), some (.inl r), some (.inl a), some (.inl q), some (.inl 0), some (.inl x6_41), some (.inl 1), some (.inl 29), some (.inl 0), some (.inl 1)]) rfl rfl rfl ?_
                                                            exfalso; omega
                                                    · first
                                                      | (exfalso; omega)
                                                      | skip
                                                        refine jv_iconst rfl rfl ?_
                                                        refine jv_goto rfl rfl ?_
                                                        refine jv_istoreK (L2 := [some (.inr (.inr 94)), some (.inl c), some (.inl r), some (.inl a), some (.inl q), some (.inl 0), some (.inl x6_41), some (.inl 1), some (.inl 5), none, none]) rfl rfl rfl ?_
                                                        refine jv_iconst rfl rfl ?_
                                                        refine jv_istoreK (L2 := [some (.inr (.inr 94)), some (.inl c), some (.inl r), some (.inl a), some (.inl q), some (.inl 0), some (.inl x6_41), some (.inl 1), some (.inl 5), some (.inl 0), none]) rfl rfl rfl ?_
                                                        refine jv_iload rfl rfl rfl ?_
                                                        refine jv_istoreK (L2 := [some (.inr (.inr 94)), some (.inl c), some (.inl r), some (.inl a), some (.inl q), some (.inl 0), some (.inl x6_41), some (.inl 1), some (.inl 5), some (.inl 0), some (.inl 1)]) rfl rfl rfl ?_
                                                        exfalso; omega
                                    · first
                                      | (exfalso; omega)
                                      | skip
                                        refine jv_bipush rfl rfl ?_
                                        refine jv_goto rfl rfl ?_
                                        refine jv_iload_n rfl rfl rfl ?_
                                        refine jv_iadd rfl rfl ⟨by omega, by omega⟩ ?_
                                        refine jv_istore (fun x => [some (.inr (.inr 94)), some (.inl c), some (.inl r), some (.inl a), some (.inl q), some (.inl 0), some (.inl x), none, none, none, none]) rfl rfl (fun _ => rfl) (fun x6_41_1 ex6_41_1 => ?_)
                                        refine jv_iload rfl rfl rfl ?_
                                        refine jv_if_eq rfl rfl rfl (fun c43_1 => ?_) (fun c43_1 => ?_)
                                        · first
                                          | (exfalso; omega)
                                          | skip
                                            refine jv_iconst rfl rfl ?_
                                            refine jv_goto rfl rfl ?_
                                            refine jv_istoreK (L2 := [some (.inr (.inr 94)), some (.inl c), some (.inl r), some (.inl a), some (.inl q), some (.inl 0), some (.inl x6_41_1), some (.inl 1), none, none, none]) rfl rfl rfl ?_
                                            refine jv_iload rfl rfl rfl ?_
                                            refine jv_if_eq rfl rfl rfl (fun c52_3 => ?_) (fun c52_3 => ?_)
                                            · first
                                              | (exfalso; omega)
                                              | skip
                                                refine jv_iconst rfl rfl ?_
                                                refine jv_goto rfl rfl ?_
                                                refine jv_istoreK (L2 := [some (.inr (.inr 94)), some (.inl c), some (.inl r), some (.inl a), some (.inl q), some (.inl 0), some (.inl x6_41_1), some (.inl 1), some (.inl 5), none, none]) rfl rfl rfl ?_
                                                refine jv_iconst rfl rfl ?_
                                                refine jv_istoreK (L2 := [some (.inr (.inr 94)), some (.inl c), some (.inl r), some (.inl a), some (.inl q), some (.inl 0), some (.inl x6_41_1), some (.inl 1), some (.inl 5), some (.inl 0), none]) rfl rfl rfl ?_
                                                refine jv_iload rfl rfl rfl ?_
                                                refine jv_istoreK (L2 := [some (.inr (.inr 94)), some (.inl c), some (.inl r), some (.inl a), some (.inl q), some (.inl 0), some (.inl x6_41_1), some (.inl 1), some (.inl 5), some (.inl 0), some (.inl 1)]) rfl rfl rfl ?_
                                                exfalso; omega
                                            · first
                                              | (exfalso; omega)
                                              | skip
                                                refine jv_iload rfl rfl rfl ?_
                                                refine jv_iconst rfl rfl ?_
                                                refine jv_icmp_ne rfl rfl rfl (fun c55_3 => ?_) (fun c55_3 => ?_)
                                                · first
                                                  | (exfalso; omega)
                                                  | skip
                                                    refine jv_iload rfl rfl rfl ?_
                                                    refine jv_iconst rfl rfl ?_
                                                    refine jv_icmp_ne rfl rfl rfl (fun c60_3 => ?_) (fun c60_3 => ?_)
                                                    · first
                                                      | (exfalso; omega)
                                                      | skip
                                                        refine jv_bipush rfl rfl ?_
                                                        refine jv_istoreK (L2 := [some (.inr (.inr 94)), some (.inl c), some (.inl r), some (.inl a), some (.inl q), some (.inl 0), some (.inl x6_41_1), some (.inl 1), some (.inl 9), none, none]) rfl rfl rfl ?_
                                                        refine jv_iconst rfl rfl ?_
                                                        refine jv_istoreK (L2 := [some (.inr (.inr 94)), some (.inl c), some (.inl r), some (.inl a), some (.inl q), some (.inl 0), some (.inl x6_41_1), some (.inl 1), some (.inl 9), some (.inl 0), none]) rfl rfl rfl ?_
                                                        refine jv_iload rfl rfl rfl ?_
                                                        refine jv_istoreK (L2 := [some (.inr (.inr 94)), some (.inl c), some (.inl r), some (.inl a), some (.inl q), some (.inl 0), some (.inl x6_41_1), some (.inl 1), some (.inl 9), some (.inl 0), some (.inl 1)]) rfl rfl rfl ?_
                                                        exfalso; omega
                                                    · first
                                                      | (exfalso; omega)
                                                      | skip
                                                        refine jv_bipush rfl rfl ?_
                                                        refine jv_goto rfl rfl ?_
                                                        refine jv_istoreK (L2 := [some (.inr (.inr 94)), some (.inl c), some (.inl r), some (.inl a), some (.inl q), some (.inl 0), some (.inl x6_41_1), some (.inl 1), some (.inl 29), none, none]) rfl rfl rfl ?_
                                                        refine jv_iconst rfl rfl ?_
                                                        refine jv_istoreK (L2 := [some (.inr (.inr 94)), some (.inl c), some (.inl r), some (.inl a), some (.inl q), some (.inl 0), some (.inl x6_41_1), some (.inl 1), some (.inl 29), some (.inl 0), none]) rfl rfl rfl ?_
                                                        refine jv_iload rfl rfl rfl ?_
                                                        refine jv_istoreK (L2 := [some (.inr (.inr 94)), some (.inl c), some (.inl r), some (.inl a), some (.inl q), some (.inl 0), some (.inl x6_41_1), some (.inl 1), some (.inl 29), some (.inl 0), some (.inl 1)]) rfl rfl rfl ?_
                                                        exfalso; omega
                                                · first
                                                  | (exfalso; omega)
                                                  | skip
                                                    refine jv_iconst rfl rfl ?_
                                                    refine jv_goto rfl rfl ?_
                                                    refine jv_istoreK (L2 := [some (.inr (.inr 94)), some (.inl c), some (.inl r), some (.inl a), some (.inl q), some (.inl 0), some (.inl x6_41_1), some (.inl 1), some (.inl 5), none, none]) rfl rfl rfl ?_
                                                    refine jv_iconst rfl rfl ?_
                                                    refine jv_istoreK (L2 := [some (.inr (.inr 94)), some (.inl c), some (.inl r), some (.inl a), some (.inl q), some (.inl 0), some (.inl x6_41_1), some (.inl 1), some (.inl 5), some (.inl 0), none]) rfl rfl rfl ?_
                                                    refine jv_iload rfl rfl rfl ?_
                                                    refine jv_istoreK (L2 := [some (.inr (.inr 94)), some (.inl c), some (.inl r), some (.inl a), some (.inl q), some (.inl 0), some (.inl x6_41_1), some (.inl 1), some (.inl 5), some (.inl 0), some (.inl 1)]) rfl rfl rfl ?_
                                                    exfalso; omega
                                        · first
                                          | (exfalso; omega)
                                          | skip
                                            refine jv_iload rfl rfl rfl ?_
                                            refine jv_iconst rfl rfl ?_
                                            refine jv_icmp_ne rfl rfl rfl (fun c46_1 => ?_) (fun c46_1 => ?_)
                                            · first
                                              | (exfalso; omega)
                                              | skip
                                                refine jv_iconst rfl rfl ?_
                                                refine jv_istoreK (L2 := [some (.inr (.inr 94)), some (.inl c), some (.inl r), some (.inl a), some (.inl q), some (.inl 0), some (.inl x6_41_1), some (.inl 0), none, none, none]) rfl rfl rfl ?_
                                                refine jv_iload rfl rfl rfl ?_
                                                refine jv_if_eq rfl rfl rfl (fun c52_4 => ?_) (fun c52_4 => ?_)
                                                · first
                                                  | (exfalso; omega)
                                                  | skip
                                                    refine jv_iconst rfl rfl ?_
                                                    refine jv_goto rfl rfl ?_
                                                    refine jv_istoreK (L2 := [some (.inr (.inr 94)), some (.inl c), some (.inl r), some (.inl a), some (.inl q), some (.inl 0), some (.inl x6_41_1), some (.inl 0), some (.inl 5), none, none]) rfl rfl rfl ?_
                                                    refine jv_iconst rfl rfl ?_
                                                    refine jv_istoreK (L2 := [some (.inr (.inr 94)), some (.inl c), some (.inl r), some (.inl a), some (.inl q), some (.inl 0), some (.inl x6_41_1), some (.inl 0), some (.inl 5), some (.inl 0), none]) rfl rfl rfl ?_
                                                    refine jv_iload rfl rfl rfl ?_
                                                    refine jv_istoreK (L2 := [some (.inr (.inr 94)), some (.inl c), some (.inl r), some (.inl a), some (.inl q), some (.inl 0), some (.inl x6_41_1), some (.inl 0), some (.inl 5), some (.inl 0), some (.inl 0)]) rfl rfl rfl ?_
                                                    exfalso; omega
                                                · first
                                                  | (exfalso; omega)
                                                  | skip
                                                    refine jv_iload rfl rfl rfl ?_
                                                    refine jv_iconst rfl rfl ?_
                                                    refine jv_icmp_ne rfl rfl rfl (fun c55_4 => ?_) (fun c55_4 => ?_)
                                                    · first
                                                      | (exfalso; omega)
                                                      | skip
                                                        refine jv_iload rfl rfl rfl ?_
                                                        refine jv_iconst rfl rfl ?_
                                                        refine jv_icmp_ne rfl rfl rfl (fun c60_4 => ?_) (fun c60_4 => ?_)
                                                        · first
                                                          | (exfalso; omega)
                                                          | skip
                                                            refine jv_bipush rfl rfl ?_
                                                            refine jv_istoreK (L2 := [some (.inr (.inr 94)), some (.inl c), some (.inl r), some (.inl a), some (.inl q), some (.inl 0), some (.inl x6_41_1), some (.inl 0), some (.inl 9), none, none]) rfl rfl rfl ?_
                                                            refine jv_iconst rfl rfl ?_
                                                            refine jv_istoreK (L2 := [some (.inr (.inr 94)), some (.inl c), some (.inl r), some (.inl a), some (.inl q), some (.inl 0), some (.inl x6_41_1), some (.inl 0), some (.inl 9), some (.inl 0), none]) rfl rfl rfl ?_
                                                            refine jv_iload rfl rfl rfl ?_
                                                            refine jv_istoreK (L2 := [some (.inr (.inr 94)), some (.inl c), some (.inl r), some (.inl a), some (.inl q), some (.inl 0), some (.inl x6_41_1), some (.inl 0), some (.inl 9), some (.inl 0), some (.inl 0)]) rfl rfl rfl ?_
                                                            exfalso; omega
                                                        · first
                                                          | (exfalso; omega)
                                                          | skip
                                                            refine jv_bipush rfl rfl ?_
                                                            refine jv_goto rfl rfl ?_
                                                            refine jv_istoreK (L2 := [some (.inr (.inr 94)), some (.inl c), some (.inl r), some (.inl a), some (.inl q), some (.inl 0), some (.inl x6_41_1), some (.inl 0), some (.inl 29), none, none]) rfl rfl rfl ?_
                                                            refine jv_iconst rfl rfl ?_
                                                            refine jv_istoreK (L2 := [some (.inr (.inr 94)), some (.inl c), some (.inl r), some (.inl a), some (.inl q), some (.inl 0), some (.inl x6_41_1), some (.inl 0), some (.inl 29), some (.inl 0), none]) rfl rfl rfl ?_
                                                            refine jv_iload rfl rfl rfl ?_
                                                            refine jv_istoreK (L2 := [some (.inr (.inr 94)), some (.inl c), some (.inl r), some (.inl a), some (.inl q), some (.inl 0), some (.inl x6_41_1), some (.inl 0), some (.inl 29), some (.inl 0), some (.inl 0)]) rfl rfl rfl ?_
                                                            exfalso; omega
                                                    · first
                                                      | (exfalso; omega)
                                                      | skip
                                                        refine jv_iconst rfl rfl ?_
                                                        refine jv_goto rfl rfl ?_
                                                        refine jv_istoreK (L2 := [some (.inr (.inr 94)), some (.inl c), some (.inl r), some (.inl a), some (.inl q), some (.inl 0), some (.inl x6_41_1), some (.inl 0), some (.inl 5), none, none]) rfl rfl rfl ?_
                                                        refine jv_iconst rfl rfl ?_
                                                        refine jv_istoreK (L2 := [some (.inr (.inr 94)), some (.inl c), some (.inl r), some (.inl a), some (.inl q), some (.inl 0), some (.inl x6_41_1), some (.inl 0), some (.inl 5), some (.inl 0), none]) rfl rfl rfl ?_
                                                        refine jv_iload rfl rfl rfl ?_
                                                        refine jv_istoreK (L2 := [some (.inr (.inr 94)), some (.inl c), some (.inl r), some (.inl a), some (.inl q), some (.inl 0), some (.inl x6_41_1), some (.inl 0), some (.inl 5), some (.inl 0), some (.inl 0)]) rfl rfl rfl ?_
                                                        exfalso; omega
                                            · first
                                              | (exfalso; omega)
                                              | skip
                                                refine jv_iconst rfl rfl ?_
                                                refine jv_goto rfl rfl ?_
                                                refine jv_istoreK (L2 := [some (.inr (.inr 94)), some (.inl c), some (.inl r), some (.inl a), some (.inl q), some (.inl 0), some (.inl x6_41_1), some (.inl 1), none, none, none]) rfl rfl rfl ?_
                                                refine jv_iload rfl rfl rfl ?_
                                                refine jv_if_eq rfl rfl rfl (fun c52_5 => ?_) (fun c52_5 => ?_)
                                                · first
                                                  | (exfalso; omega)
                                                  | skip
                                                    refine jv_iconst rfl rfl ?_
                                                    refine jv_goto rfl rfl ?_
                                                    refine jv_istoreK (L2 := [some (.inr (.inr 94)), some (.inl c), some (.inl r), some (.inl a), some (.inl q), some (.inl 0), some (.inl x6_41_1), some (.inl 1), some (.inl 5), none, none]) rfl rfl rfl ?_
                                                    refine jv_iconst rfl rfl ?_
                                                    refine jv_istoreK (L2 := [some (.inr (.inr 94)), some (.inl c), some (.inl r), some (.inl a), some (.inl q), some (.inl 0), some (.inl x6_41_1), some (.inl 1), some (.inl 5), some (.inl 0), none]) rfl rfl rfl ?_
                                                    refine jv_iload rfl rfl rfl ?_
                                                    refine jv_istoreK (L2 := [some (.inr (.inr 94)), some (.inl c), some (.inl r), some (.inl a), some (.inl q), some (.inl 0), some (.inl x6_41_1), some (.inl 1), some (.inl 5), some (.inl 0), some (.inl 1)]) rfl rfl rfl ?_
                                                    exfalso; omega
                                                · first
                                                  | (exfalso; omega)
                                                  | skip
                                                    refine jv_iload rfl rfl rfl ?_
                                                    refine jv_iconst rfl rfl ?_
                                                    refine jv_icmp_ne rfl rfl rfl (fun c55_5 => ?_) (fun c55_5 => ?_)
                                                    · first
                                                      | (exfalso; omega)
                                                      | skip
                                                        refine jv_iload rfl rfl rfl ?_
                                                        refine jv_iconst rfl rfl ?_
                                                        refine jv_icmp_ne rfl rfl rfl (fun c60_5 => ?_) (fun c60_5 => ?_)
                                                        · first
                                                          | (exfalso; omega)
                                                          | skip
                                                            refine jv_bipush rfl rfl ?_
                                                            refine jv_istoreK (L2 := [some (.inr (.inr 94)), some (.inl c), some (.inl r), some (.inl a), some (.inl q), some (.inl 0), some (.inl x6_41_1), some (.inl 1), some (.inl 9), none, none]) rfl rfl rfl ?_
                                                            refine jv_iconst rfl rfl ?_
                                                            refine jv_istoreK (L2 := [some (.inr (.inr 94)), some (.inl c), some (.inl r), some (.inl a), some (.inl q), some (.inl 0), some (.inl x6_41_1), some (.inl 1), some (.inl 9), some (.inl 0), none]) rfl rfl rfl ?_
                                                            refine jv_iload rfl rfl rfl ?_
                                                            refine jv_istoreK (L2 := [some (.inr (.inr 94)), some (.inl c), some (.inl r), some (.inl a), some (.inl q), some (.inl 0), some (.inl x6_41_1), some (.inl 1), some (.inl 9), some (.inl 0), some (.inl 1)]) rfl rfl rfl ?_
                                                            exfalso; omega
                                                        · first
                                                          | (exfalso; omega)
                                                          | skip
                                                            refine jv_bipush rfl rfl ?_
                                                            refine jv_goto rfl rfl ?_
                                                            refine jv_istoreK (L2 := [some (.inr (.inr 94)), some (.inl c), some (.inl r), some (.inl a), some (.inl q), some (.inl 0), some (.inl x6_41_1), some (.inl 1), some (.inl 29), none, none]) rfl rfl rfl ?_
                                                            refine jv_iconst rfl rfl ?_
                                                            refine jv_istoreK (L2 := [some (.inr (.inr 94)), some (.inl c), some (.inl r), some (.inl a), some (.inl q), some (.inl 0), some (.inl x6_41_1), some (.inl 1), some (.inl 29), some (.inl 0), none]) rfl rfl rfl ?_
                                                            refine jv_iload rfl rfl rfl ?_
                                                            refine jv_istoreK (L2 := [some (.inr (.inr 94)), some (.inl c), some (.inl r), some (.inl a), some (.inl q), some (.inl 0), some (.inl x6_41_1), some (.inl 1), some (.inl 29), some (.inl 0), some (.inl 1)]) rfl rfl rfl ?_
                                                            exfalso; omega
                                                    · first
                                                      | (exfalso; omega)
                                                      | skip
                                                        refine jv_iconst rfl rfl ?_
                                                        refine jv_goto rfl rfl ?_
                                                        refine jv_istoreK (L2 := [some (.inr (.inr 94)), some (.inl c), some (.inl r), some (.inl a), some (.inl q), some (.inl 0), some (.inl x6_41_1), some (.inl 1), some (.inl 5), none, none]) rfl rfl rfl ?_
                                                        refine jv_iconst rfl rfl ?_
                                                        refine jv_istoreK (L2 := [some (.inr (.inr 94)), some (.inl c), some (.inl r), some (.inl a), some (.inl q), some (.inl 0), some (.inl x6_41_1), some (.inl 1), some (.inl 5), some (.inl 0), none]) rfl rfl rfl ?_
                                                        refine jv_iload rfl rfl rfl ?_
                                                        refine jv_istoreK (L2 := [some (.inr (.inr 94)), some (.inl c), some (.inl r), some (.inl a), some (.inl q), some (.inl 0), some (.inl x6_41_1), some (.inl 1), some (.inl 5), some (.inl 0), some (.inl 1)]) rfl rfl rfl ?_
                                                        exfalso; omega
                                · first
                                  | (exfalso; omega)
                                  | skip
                                    refine jv_bipush rfl rfl ?_
                                    refine jv_goto rfl rfl ?_
                                    refine jv_iload_n rfl rfl rfl ?_
                                    refine jv_iadd rfl rfl ⟨by omega, by omega⟩ ?_
                                    refine jv_istore (fun x => [some (.inr (.inr 94)), some (.inl c), some (.inl r), some (.inl a), some (.inl q), some (.inl 0), some (.inl x), none, none, none, none]) rfl rfl (fun _ => rfl) (fun x6_41_2 ex6_41_2 => ?_)
                                    refine jv_iload rfl rfl rfl ?_
                                    refine jv_if_eq rfl rfl rfl (fun c43_2 => ?_) (fun c43_2 => ?_)
                                    · first
                                      | (exfalso; omega)
                                      | skip
                                        refine jv_iconst rfl rfl ?_
                                        refine jv_goto rfl rfl ?_
                                        refine jv_istoreK (L2 := [some (.inr (.inr 94)), some (.inl c), some (.inl r), some (.inl a), some (.inl q), some (.inl 0), some (.inl x6_41_2), some (.inl 1), none, none, none]) rfl rfl rfl ?_
                                        refine jv_iload rfl rfl rfl ?_
                                        refine jv_if_eq rfl rfl rfl (fun c52_6 => ?_) (fun c52_6 => ?_)
                                        · first
                                          | (exfalso; omega)
                                          | skip
                                            refine jv_iconst rfl rfl ?_
                                            refine jv_goto rfl rfl ?_
                                            refine jv_istoreK (L2 := [some (.inr (.inr 94)), some (.inl c), some (.inl r), some (.inl a), some (.inl q), some (.inl 0), some (.inl x6_41_2), some (.inl 1), some (.inl 5), none, none]) rfl rfl rfl ?_
                                            refine jv_iconst rfl rfl ?_
                                            refine jv_istoreK (L2 := [some (.inr (.inr 94)), some (.inl c), some (.inl r), some (.inl a), some (.inl q), some (.inl 0), some (.inl x6_41_2), some (.inl 1), some (.inl 5), some (.inl 0), none]) rfl rfl rfl ?_
                                            refine jv_iload rfl rfl rfl ?_
                                            refine jv_istoreK (L2 := [some (.inr (.inr 94)), some (.inl c), some (.inl r), some (.inl a), some (.inl q), some (.inl 0), some (.inl x6_41_2), some (.inl 1), some (.inl 5), some (.inl 0), some (.inl 1)]) rfl rfl rfl ?_
                                            exfalso; omega
                                        · first
                                          | (exfalso; omega)
                                          | skip
                                            refine jv_iload rfl rfl rfl ?_
                                            refine jv_iconst rfl rfl ?_
                                            refine jv_icmp_ne rfl rfl rfl (fun c55_6 => ?_) (fun c55_6 => ?_)
                                            · first
                                              | (exfalso; omega)
                                              | skip
                                                refine jv_iload rfl rfl rfl ?_
                                                refine jv_iconst rfl rfl ?_
                                                refine jv_icmp_ne rfl rfl rfl (fun c60_6 => ?_) (fun c60_6 => ?_)
                                                · first
                                                  | (exfalso; omega)
                                                  | skip
                                                    refine jv_bipush rfl rfl ?_
                                                    refine jv_istoreK (L2 := [some (.inr (.inr 94)), some (.inl c), some (.inl r), some (.inl a), some (.inl q), some (.inl 0), some (.inl x6_41_2), some (.inl 1), some (.inl 9), none, none]) rfl rfl rfl ?_
                                                    refine jv_iconst rfl rfl ?_
                                                    refine jv_istoreK (L2 := [some (.inr (.inr 94)), some (.inl c), some (.inl r), some (.inl a), some (.inl q), some (.inl 0), some (.inl x6_41_2), some (.inl 1), some (.inl 9), some (.inl 0), none]) rfl rfl rfl ?_
                                                    refine jv_iload rfl rfl rfl ?_
                                                    refine jv_istoreK (L2 := [some (.inr (.inr 94)), some (.inl c), some (.inl r), some (.inl a), some (.inl q), some (.inl 0), some (.inl x6_41_2), some (.inl 1), some (.inl 9), some (.inl 0), some (.inl 1)]) rfl rfl rfl ?_
                                                    exfalso; omega
                                                · first
                                                  | (exfalso; omega)
                                                  | skip
                                                    refine jv_bipush rfl rfl ?_
                                                    refine jv_goto rfl rfl ?_
                                                    refine jv_istoreK (L2 := [some (.inr (.inr 94)), some (.inl c), some (.inl r), some (.inl a), some (.inl q), some (.inl 0), some (.inl x6_41_2), some (.inl 1), some (.inl 29), none, none]) rfl rfl rfl ?_
                                                    refine jv_iconst rfl rfl ?_
                                                    refine jv_istoreK (L2 := [some (.inr (.inr 94)), some (.inl c), some (.inl r), some (.inl a), some (.inl q), some (.inl 0), some (.inl x6_41_2), some (.inl 1), some (.inl 29), some (.inl 0), none]) rfl rfl rfl ?_
                                                    refine jv_iload rfl rfl rfl ?_
                                                    refine jv_istoreK (L2 := [some (.inr (.inr 94)), some (.inl c), some (.inl r), some (.inl a), some (.inl q), some (.inl 0), some (.inl x6_41_2), some (.inl 1), some (.inl 29), some (.inl 0), some (.inl 1)]) rfl rfl rfl ?_
                                                    exfalso; omega
                                            · first
                                              | (exfalso; omega)
                                              | skip
                                                refine jv_iconst rfl rfl ?_
                                                refine jv_goto rfl rfl ?_
                                                refine jv_istoreK (L2 := [some (.inr (.inr 94)), some (.inl c), some (.inl r), some (.inl a), some (.inl q), some (.inl 0), some (.inl x6_41_2), some (.inl 1), some (.inl 5), none, none]) rfl rfl rfl ?_
                                                refine jv_iconst rfl rfl ?_
                                                refine jv_istoreK (L2 := [some (.inr (.inr 94)), some (.inl c), some (.inl r), some (.inl a), some (.inl q), some (.inl 0), some (.inl x6_41_2), some (.inl 1), some (.inl 5), some (.inl 0), none]) rfl rfl rfl ?_
                                                refine jv_iload rfl rfl rfl ?_
                                                refine jv_istoreK (L2 := [some (.inr (.inr 94)), some (.inl c), some (.inl r), some (.inl a), some (.inl q), some (.inl 0), some (.inl x6_41_2), some (.inl 1), some (.inl 5), some (.inl 0), some (.inl 1)]) rfl rfl rfl ?_
                                                exfalso; omega
                                    · first
                                      | (exfalso; omega)
                                      | skip
                                        refine jv_iload rfl rfl rfl ?_
                                        refine jv_iconst rfl rfl ?_
                                        refine jv_icmp_ne rfl rfl rfl (fun c46_2 => ?_) (fun c46_2 => ?_)
                                        · first
                                          | (exfalso; omega)
                                          | skip
                                            refine jv_iconst rfl rfl ?_
                                            refine jv_istoreK (L2 := [some (.inr (.inr 94)), some (.inl c), some (.inl r), some (.inl a), some (.inl q), some (.inl 0), some (.inl x6_41_2), some (.inl 0), none, none, none]) rfl rfl rfl ?_
                                            refine jv_iload rfl rfl rfl ?_
                                            refine jv_if_eq rfl rfl rfl (fun c52_7 => ?_) (fun c52_7 => ?_)
                                            · first
                                              | (exfalso; omega)
                                              | skip
                                                refine jv_iconst rfl rfl ?_
                                                refine jv_goto rfl rfl ?_
                                                refine jv_istoreK (L2 := [some (.inr (.inr 94)), some (.inl c), some (.inl r), some (.inl a), some (.inl q), some (.inl 0), some (.inl x6_41_2), some (.inl 0), some (.inl 5), none, none]) rfl rfl rfl ?_
                                                refine jv_iconst rfl rfl ?_
                                                refine jv_istoreK (L2 := [some (.inr (.inr 94)), some (.inl c), some (.inl r), some (.inl a), some (.inl q), some (.inl 0), some (.inl x6_41_2), some (.inl 0), some (.inl 5), some (.inl 0), none]) rfl rfl rfl ?_
                                                refine jv_iload rfl rfl rfl ?_
                                                refine jv_istoreK (L2 := [some (.inr (.inr 94)), some (.inl c), some (.inl r), some (.inl a), some (.inl q), some (.inl 0), some (.inl x6_41_2), some (.inl 0), some (.inl 5), some (.inl 0), some (.inl 0)]) rfl rfl rfl ?_
                                                exfalso; omega
                                            · first
                                              | (exfalso; omega)
                                              | skip
                                                refine jv_iload rfl rfl rfl ?_
                                                refine jv_iconst rfl rfl ?_
                                                refine jv_icmp_ne rfl rfl rfl (fun c55_7 => ?_) (fun c55_7 => ?_)
                                                · first
                                                  | (exfalso; omega)
                                                  | skip
                                                    refine jv_iload rfl rfl rfl ?_
                                                    refine jv_iconst rfl rfl ?_
                                                    refine jv_icmp_ne rfl rfl rfl (fun c60_7 => ?_) (fun c60_7 => ?_)
                                                    · first
                                                      | (exfalso; omega)
                                                      | skip
                                                        refine jv_bipush rfl rfl ?_
                                                        refine jv_istoreK (L2 := [some (.inr (.inr 94)), some (.inl c), some (.inl r), some (.inl a), some (.inl q), some (.inl 0), some (.inl x6_41_2), some (.inl 0), some (.inl 9), none, none]) rfl rfl rfl ?_
                                                        refine jv_iconst rfl rfl ?_
                                                        refine jv_istoreK (L2 := [some (.inr (.inr 94)), some (.inl c), some (.inl r), some (.inl a), some (.inl q), some (.inl 0), some (.inl x6_41_2), some (.inl 0), some (.inl 9), some (.inl 0), none]) rfl rfl rfl ?_
                                                        refine jv_iload rfl rfl rfl ?_
                                                        refine jv_istoreK (L2 := [some (.inr (.inr 94)), some (.inl c), some (.inl r), some (.inl a), some (.inl q), some (.inl 0), some (.inl x6_41_2), some (.inl 0), some (.inl 9), some (.inl 0), some (.inl 0)]) rfl rfl rfl ?_
                                                        exfalso; omega
                                                    · first
                                                      | (exfalso; omega)
                                                      | skip
                                                        refine jv_bipush rfl rfl ?_
                                                        refine jv_goto rfl rfl ?_
                                                        refine jv_istoreK (L2 := [some (.inr (.inr 94)), some (.inl c), some (.inl r), some (.inl a), some (.inl q), some (.inl 0), some (.inl x6_41_2), some (.inl 0), some (.inl 29), none, none]) rfl rfl rfl ?_
                                                        refine jv_iconst rfl rfl ?_
                                                        refine jv_istoreK (L2 := [some (.inr (.inr 94)), some (.inl c), some (.inl r), some (.inl a), some (.inl q), some (.inl 0), some (.inl x6_41_2), some (.inl 0), some (.inl 29), some (.inl 0), none]) rfl rfl rfl ?_
                                                        refine jv_iload rfl rfl rfl ?_
                                                        refine jv_istoreK (L2 := [some (.inr (.inr 94)), some (.inl c), some (.inl r), some (.inl a), some (.inl q), some (.inl 0), some (.inl x6_41_2), some (.inl 0), some (.inl 29), some (.inl 0), some (.inl 0)]) rfl rfl rfl ?_
                                                        exfalso; omega
                                                · first
                                                  | (exfalso; omega)
                                                  | skip
                                                    refine jv_iconst rfl rfl ?_
                                                    refine jv_goto rfl rfl ?_
                                                    refine jv_istoreK (L2 := [some (.inr (.inr 94)), some (.inl c), some (.inl r), some (.inl a), some (.inl q), some (.inl 0), some (.inl x6_41_2), some (.inl 0), some (.inl 5), none, none]) rfl rfl rfl ?_
                                                    refine jv_iconst rfl rfl ?_
                                                    refine jv_istoreK (L2 := [some (.inr (.inr 94)), some (.inl c), some (.inl r), some (.inl a), some (.inl q), some (.inl 0), some (.inl x6_41_2), some (.inl 0), some (.inl 5), some (.inl 0), none]) rfl rfl rfl ?_
                                                    refine jv_iload rfl rfl rfl ?_
                                                    refine jv_istoreK (L2 := [some (.inr (.inr 94)), some (.inl c), some (.inl r), some (.inl a), some (.inl q), some (.inl 0), some (.inl x6_41_2), some (.inl 0), some (.inl 5), some (.inl 0), some (.inl 0)]) rfl rfl rfl ?_
                                                    exfalso; omega
                                        · first
                                          | (exfalso; omega)
                                          | skip
                                            refine jv_iconst rfl rfl ?_
                                            refine jv_goto rfl rfl ?_
                                            refine jv_istoreK (L2 := [some (.inr (.inr 94)), some (.inl c), some (.inl r), some (.inl a), some (.inl q), some (.inl 0), some (.inl x6_41_2), some (.inl 1), none, none, none]) rfl rfl rfl ?_
                                            refine jv_iload rfl rfl rfl ?_
                                            refine jv_if_eq rfl rfl rfl (fun c52_8 => ?_) (fun c52_8 => ?_)
                                            · first
                                              | (exfalso; omega)
                                              | skip
                                                refine jv_iconst rfl rfl ?_
                                                refine jv_goto rfl rfl ?_
                                                refine jv_istoreK (L2 := [some (.inr (.inr 94)), some (.inl c), some (.inl r), some (.inl a), some (.inl q), some (.inl 0), some (.inl x6_41_2), some (.inl 1), some (.inl 5), none, none]) rfl rfl rfl ?_
                                                refine jv_iconst rfl rfl ?_
                                                refine jv_istoreK (L2 := [some (.inr (.inr 94)), some (.inl c), some (.inl r), some (.inl a), some (.inl q), some (.inl 0), some (.inl x6_41_2), some (.inl 1), some (.inl 5), some (.inl 0), none]) rfl rfl rfl ?_
                                                refine jv_iload rfl rfl rfl ?_
                                                refine jv_istoreK (L2 := [some (.inr (.inr 94)), some (.inl c), some (.inl r), some (.inl a), some (.inl q), some (.inl 0), some (.inl x6_41_2), some (.inl 1), some (.inl 5), some (.inl 0), some (.inl 1)]) rfl rfl rfl ?_
                                                exfalso; omega
                                            · first
                                              | (exfalso; omega)
                                              | skip
                                                refine jv_iload rfl rfl rfl ?_
                                                refine jv_iconst rfl rfl ?_
                                                refine jv_icmp_ne rfl rfl rfl (fun c55_8 => ?_) (fun c55_8 => ?_)
                                                · first
                                                  | (exfalso; omega)
                                                  | skip
                                                    refine jv_iload rfl rfl rfl ?_
                                                    refine jv_iconst rfl rfl ?_
                                                    refine jv_icmp_ne rfl rfl rfl (fun c60_8 => ?_) (fun c60_8 => ?_)
                                                    · first
                                                      | (exfalso; omega)
                                                      | skip
                                                        refine jv_bipush rfl rfl ?_
                                                        refine jv_istoreK (L2 := [some (.inr (.inr 94)), some (.inl c), some (.inl r), some (.inl a), some (.inl q), some (.inl 0), some (.inl x6_41_2), some (.inl 1), some (.inl 9), none, none]) rfl rfl rfl ?_
                                                        refine jv_iconst rfl rfl ?_
                                                        refine jv_istoreK (L2 := [some (.inr (.inr 94)), some (.inl c), some (.inl r), some (.inl a), some (.inl q), some (.inl 0), some (.inl x6_41_2), some (.inl 1), some (.inl 9), some (.inl 0), none]) rfl rfl rfl ?_
                                                        refine jv_iload rfl rfl rfl ?_
                                                        refine jv_istoreK (L2 := [some (.inr (.inr 94)), some (.inl c), some (.inl r), some (.inl a), some (.inl q), some (.inl 0), some (.inl x6_41_2), some (.inl 1), some (.inl 9), some (.inl 0), some (.inl 1)]) rfl rfl rfl ?_
                                                        exfalso; omega
                                                    · first
                                                      | (exfalso; omega)
                                                      | skip
                                                        refine jv_bipush rfl rfl ?_
                                                        refine jv_goto rfl rfl ?_
                                                        refine jv_istoreK (L2 := [some (.inr (.inr 94)), some (.inl c), some (.inl r), some (.inl a), some (.inl q), some (.inl 0), some (.inl x6_41_2), some (.inl 1), some (.inl 29), none, none]) rfl rfl rfl ?_
                                                        refine jv_iconst rfl rfl ?_
                                                        refine jv_istoreK (L2 := [some (.inr (.inr 94)), some (.inl c), some (.inl r), some (.inl a), some (.inl q), some (.inl 0), some (.inl x6_41_2), some (.inl 1), some (.inl 29), some (.inl 0), none]) rfl rfl rfl ?_
                                                        refine jv_iload rfl rfl rfl ?_
                                                        refine jv_istoreK (L2 := [some (.inr (.inr 94)), some (.inl c), some (.inl r), some (.inl a), some (.inl q), some (.inl 0), some (.inl x6_41_2), some (.inl 1), some (.inl 29), some (.inl 0), some (.inl 1)]) rfl rfl rfl ?_
                                                        exfalso; omega
                                                · first
                                                  | (exfalso; omega)
                                                  | skip
                                                    refine jv_iconst rfl rfl ?_
                                                    refine jv_goto rfl rfl ?_
                                                    refine jv_istoreK (L2 := [some (.inr (.inr 94)), some (.inl c), some (.inl r), some (.inl a), some (.inl q), some (.inl 0), some (.inl x6_41_2), some (.inl 1), some (.inl 5), none, none]) rfl rfl rfl ?_
                                                    refine jv_iconst rfl rfl ?_
                                                    refine jv_istoreK (L2 := [some (.inr (.inr 94)), some (.inl c), some (.inl r), some (.inl a), some (.inl q), some (.inl 0), some (.inl x6_41_2), some (.inl 1), some (.inl 5), some (.inl 0), none]) rfl rfl rfl ?_
                                                    refine jv_iload rfl rfl rfl ?_
                                                    refine jv_istoreK (L2 := [some (.inr (.inr 94)), some (.inl c), some (.inl r), some (.inl a), some (.inl q), some (.inl 0), some (.inl x6_41_2), some (.inl 1), some (.inl 5), some (.inl 0), some (.inl 1)]) rfl rfl rfl ?_
                                                    exfalso; omega
                            · first
                              | (exfalso; omega)
                              | skip
                                refine jv_bipush rfl rfl ?_
                                refine jv_goto rfl rfl ?_
                                refine jv_iload_n rfl rfl rfl ?_
                                refine jv_iadd rfl rfl ⟨by omega, by omega⟩ ?_
                                refine jv_istore (fun x => [some (.inr (.inr 94)), some (.inl c), some (.inl r), some (.inl a), some (.inl q), some (.inl 0), some (.inl x), none, none, none, none]) rfl rfl (fun _ => rfl) (fun x6_41_3 ex6_41_3 => ?_)
                                refine jv_iload rfl rfl rfl ?_
                                refine jv_if_eq rfl rfl rfl (fun c43_3 => ?_) (fun c43_3 => ?_)
                                · first
                                  | (exfalso; omega)
                                  | skip
                                    refine jv_iconst rfl rfl ?_
                                    refine jv_goto rfl rfl ?_
                                    refine jv_istoreK (L2 := [some (.inr (.inr 94)), some (.inl c), some (.inl r), some (.inl a), some (.inl q), some (.inl 0), some (.inl x6_41_3), some (.inl 1), none, none, none]) rfl rfl rfl ?_
                                    refine jv_iload rfl rfl rfl ?_
                                    refine jv_if_eq rfl rfl rfl (fun c52_9 => ?_) (fun c52_9 => ?_)
                                    · first
                                      | (exfalso; omega)
                                      | skip
                                        refine jv_iconst rfl rfl ?_
                                        refine jv_goto rfl rfl ?_
                                        refine jv_istoreK (L2 := [some (.inr (.inr 94)), some (.inl c), some (.inl r), some (.inl a), some (.inl q), some (.inl 0), some (.inl x6_41_3), some (.inl 1), some (.inl 5), none, none]) rfl rfl rfl ?_
                                        refine jv_iconst rfl rfl ?_
                                        refine jv_istoreK (L2 := [some (.inr (.inr 94)), some (.inl c), some (.inl r), some (.inl a), some (.inl q), some (.inl 0), some (.inl x6_41_3), some (.inl 1), some (.inl 5), some (.inl 0), none]) rfl rfl rfl ?_
                                        refine jv_iload rfl rfl rfl ?_
                                        refine jv_istoreK (L2 := [some (.inr (.inr 94)), some (.inl c), some (.inl r), some (.inl a), some (.inl q), some (.inl 0), some (.inl x6_41_3), some (.inl 1), some (.inl 5), some (.inl 0), some (.inl 1)]) rfl rfl rfl ?_
                                        exfalso; omega
                                    · first
                                      | (exfalso; omega)
                                      | skip
                                        refine jv_iload rfl rfl rfl ?_
                                        refine jv_iconst rfl rfl ?_
                                        refine jv_icmp_ne rfl rfl rfl (fun c55_9 => ?_) (fun c55_9 => ?_)
                                        · first
                                          | (exfalso; omega)
                                          | skip
                                            refine jv_iload rfl rfl rfl ?_
                                            refine jv_iconst rfl rfl ?_
                                            refine jv_icmp_ne rfl rfl rfl (fun c60_9 => ?_) (fun c60_9 => ?_)
                                            · first
                                              | (exfalso; omega)
                                              | skip
                                                refine jv_bipush rfl rfl ?_
                                                refine jv_istoreK (L2 := [some (.inr (.inr 94)), some (.inl c), some (.inl r), some (.inl a), some (.inl q), some (.inl 0), some (.inl x6_41_3), some (.inl 1), some (.inl 9), none, none]) rfl rfl rfl ?_
                                                refine jv_iconst rfl rfl ?_
                                                refine jv_istoreK (L2 := [some (.inr (.inr 94)), some (.inl c), some (.inl r), some (.inl a), some (.inl q), some (.inl 0), some (.inl x6_41_3), some (.inl 1), some (.inl 9), some (.inl 0), none]) rfl rfl rfl ?_
                                                refine jv_iload rfl rfl rfl ?_
                                                refine jv_istoreK (L2 := [some (.inr (.inr 94)), some (.inl c), some (.inl r), some (.inl a), some (.inl q), some (.inl 0), some (.inl x6_41_3), some (.inl 1), some (.inl 9), some (.inl 0), some (.inl 1)]) rfl rfl rfl ?_
                                                exfalso; omega
                                            · first
                                              | (exfalso; omega)
                                              | skip
                                                refine jv_bipush rfl rfl ?_
                                                refine jv_goto rfl rfl ?_
                                                refine jv_istoreK (L2 := [some (.inr (.inr 94)), some (.inl c), some (.inl r), some (.inl a), some (.inl q), some (.inl 0), some (.inl x6_41_3), some (.inl 1), some (.inl 29), none, none]) rfl rfl rfl ?_
                                                refine jv_iconst rfl rfl ?_
                                                refine jv_istoreK (L2 := [some (.inr (.inr 94)), some (.inl c), some (.inl r), some (.inl a), some (.inl q), some (.inl 0), some (.inl x6_41_3), some (.inl 1), some (.inl 29), some (.inl 0), none]) rfl rfl rfl ?_
                                                refine jv_iload rfl rfl rfl ?_
                                                refine jv_istoreK (L2 := [some (.inr (.inr 94)), some (.inl c), some (.inl r), some (.inl a), some (.inl q), some (.inl 0), some (.inl x6_41_3), some (.inl 1), some (.inl 29), some (.inl 0), some (.inl 1)]) rfl rfl rfl ?_
                                                exfalso; omega
                                        · first
                                          | (exfalso; omega)
                                          | skip
                                            refine jv_iconst rfl rfl ?_
                                            refine jv_goto rfl rfl ?_
                                            refine jv_istoreK (L2 := [some (.inr (.inr 94)), some (.inl c), some (.inl r), some (.inl a), some (.inl q), some (.inl 0), some (.inl x6_41_3), some (.inl 1), some (.inl 5), none, none]) rfl rfl rfl ?_
                                            refine jv_iconst rfl rfl ?_
                                            refine jv_istoreK (L2 := [some (.inr (.inr 94)), some (.inl c), some (.inl r), some (.inl a), some (.inl q), some (.inl 0), some (.inl x6_41_3), some (.inl 1), some (.inl 5), some (.inl 0), none]) rfl rfl rfl ?_
                                            refine jv_iload rfl rfl rfl ?_
                                            refine jv_istoreK (L2 := [some (.inr (.inr 94)), some (.inl c), some (.inl r), some (.inl a), some (.inl q), some (.inl 0), some (.inl x6_41_3), some (.inl 1), some (.inl 5), some (.inl 0), some (.inl 1)]) rfl rfl rfl ?_
                                            exfalso; omega
                                · first
                                  | (exfalso; omega)
                                  | skip
                                    refine jv_iload rfl rfl rfl ?_
                                    refine jv_iconst rfl rfl ?_
                                    refine jv_icmp_ne rfl rfl rfl (fun c46_3 => ?_) (fun c46_3 => ?_)
                                    · first
                                      | (exfalso; omega)
                                      | skip
                                        refine jv_iconst rfl rfl ?_
                                        refine jv_istoreK (L2 := [some (.inr (.inr 94)), some (.inl c), some (.inl r), some (.inl a), some (.inl q), some (.inl 0), some (.inl x6_41_3), some (.inl 0), none, none, none]) rfl rfl rfl ?_
                                        refine jv_iload rfl rfl rfl ?_
                                        refine jv_if_eq rfl rfl rfl (fun c52_10 => ?_) (fun c52_10 => ?_)
                                        · first
                                          | (exfalso; omega)
                                          | skip
                                            refine jv_iconst rfl rfl ?_
                                            refine jv_goto rfl rfl ?_
                                            refine jv_istoreK (L2 := [some (.inr (.inr 94)), some (.inl c), some (.inl r), some (.inl a), some (.inl q), some (.inl 0), some (.inl x6_41_3), some (.inl 0), some (.inl 5), none, none]) rfl rfl rfl ?_
                                            refine jv_iconst rfl rfl ?_
                                            refine jv_istoreK (L2 := [some (.inr (.inr 94)), some (.inl c), some (.inl r), some (.inl a), some (.inl q), some (.inl 0), some (.inl x6_41_3), some (.inl 0), some (.inl 5), some (.inl 0), none]) rfl rfl rfl ?_
                                            refine jv_iload rfl rfl rfl ?_
                                            refine jv_istoreK (L2 := [some (.inr (.inr 94)), some (.inl c), some (.inl r), some (.inl a), some (.inl q), some (.inl 0), some (.inl x6_41_3), some (.inl 0), some (.inl 5), some (.inl 0), some (.inl 0)]) rfl rfl rfl ?_
                                            exfalso; omega
                                        · first
                                          | (exfalso; omega)
                                          | skip
                                            refine jv_iload rfl rfl rfl ?_
                                            refine jv_iconst rfl rfl ?_
                                            refine jv_icmp_ne rfl rfl rfl (fun c55_10 => ?_) (fun c55_10 => ?_)
                                            · first
                                              | (exfalso; omega)
                                              | skip
                                                refine jv_iload rfl rfl rfl ?_
                                                refine jv_iconst rfl rfl ?_
                                                refine jv_icmp_ne rfl rfl rfl (fun c60_10 => ?_) (fun c60_10 => ?_)
                                                · first
                                                  | (exfalso; omega)
                                                  | skip
                                                    refine jv_bipush rfl rfl ?_
                                                    refine jv_istoreK (L2 := [some (.inr (.inr 94)), some (.inl c), some (.inl r), some (.inl a), some (.inl q), some (.inl 0), some (.inl x6_41_3), some (.inl 0), some (.inl 9), none, none]) rfl rfl rfl ?_
                                                    refine jv_iconst rfl rfl ?_
                                                    refine jv_istoreK (L2 := [some (.inr (.inr 94)), some (.inl c), some (.inl r), some (.inl a), some (.inl q), some (.inl 0), some (.inl x6_41_3), some (.inl 0), some (.inl 9), some (.inl 0), none]) rfl rfl rfl ?_
                                                    refine jv_iload rfl rfl rfl ?_
                                                    refine jv_istoreK (L2 := [some (.inr (.inr 94)), some (.inl c), some (.inl r), some (.inl a), some (.inl q), some (.inl 0), some (.inl x6_41_3), some (.inl 0), some (.inl 9), some (.inl 0), some (.inl 0)]) rfl rfl rfl ?_
                                                    exfalso; omega
                                                · first
                                                  | (exfalso; omega)
                                                  | skip
                                                    refine jv_bipush rfl rfl ?_
                                                    refine jv_goto rfl rfl ?_
                                                    refine jv_istoreK (L2 := [some (.inr (.inr 94)), some (.inl c), some (.inl r), some (.inl a), some (.inl q), some (.inl 0), some (.inl x6_41_3), some (.inl 0), some (.inl 29), none, none]) rfl rfl rfl ?_
                                                    refine jv_iconst rfl rfl ?_
                                                    refine jv_istoreK (L2 := [some (.inr (.inr 94)), some (.inl c), some (.inl r), some (.inl a), some (.inl q), some (.inl 0), some (.inl x6_41_3), some (.inl 0), some (.inl 29), some (.inl 0), none]) rfl rfl rfl ?_
                                                    refine jv_iload rfl rfl rfl ?_
                                                    refine jv_istoreK (L2 := [some (.inr (.inr 94)), some (.inl c), some (.inl r), some (.inl a), some (.inl q), some (.inl 0), some (.inl x6_41_3), some (.inl 0), some (.inl 29), some (.inl 0), some (.inl 0)]) rfl rfl rfl ?_
                                                    exfalso; omega
                                            · first
                                              | (exfalso; omega)
                                              | skip
                                                refine jv_iconst rfl rfl ?_
                                                refine jv_goto rfl rfl ?_
                                                refine jv_istoreK (L2 := [some (.inr (.inr 94)), some (.inl c), some (.inl r), some (.inl a), some (.inl q), some (.inl 0), some (.inl x6_41_3), some (.inl 0), some (.inl 5), none, none]) rfl rfl rfl ?_
                                                refine jv_iconst rfl rfl ?_
                                                refine jv_istoreK (L2 := [some (.inr (.inr 94)), some (.inl c), some (.inl r), some (.inl a), some (.inl q), some (.inl 0), some (.inl x6_41_3), some (.inl 0), some (.inl 5), some (.inl 0), none]) rfl rfl rfl ?_
                                                refine jv_iload rfl rfl rfl ?_
                                                refine jv_istoreK (L2 := [some (.inr (.inr 94)), some (.inl c), some (.inl r), some (.inl a), some (.inl q), some (.inl 0), some (.inl x6_41_3), some (.inl 0), some (.inl 5), some (.inl 0), some (.inl 0)]) rfl rfl rfl ?_
                                                exfalso; omega
                                    · first
                                      | (exfalso; omega)
                                      | skip
                                        refine jv_iconst rfl rfl ?_
                                        refine jv_goto rfl rfl ?_
                                        refine jv_istoreK (L2 := [some (.inr (.inr 94)), some (.inl c), some (.inl r), some (.inl a), some (.inl q), some (.inl 0), some (.inl x6_41_3), some (.inl 1), none, none, none]) rfl rfl rfl ?_
                                        refine jv_iload rfl rfl rfl ?_
                                        refine jv_if_eq rfl rfl rfl (fun c52_11 => ?_) (fun c52_11 => ?_)
                                        · first
                                          | (exfalso; omega)
                                          | skip
                                            refine jv_iconst rfl rfl ?_
                                            refine jv_goto rfl rfl ?_
                                            refine jv_istoreK (L2 := [some (.inr (.inr 94)), some (.inl c), some (.inl r), some (.inl a), some (.inl q), some (.inl 0), some (.inl x6_41_3), some (.inl 1), some (.inl 5), none, none]) rfl rfl rfl ?_
                                            refine jv_iconst rfl rfl ?_
                                            refine jv_istoreK (L2 := [some (.inr (.inr 94)), some (.inl c), some (.inl r), some (.inl a), some (.inl q), some (.inl 0), some (.inl x6_41_3), some (.inl 1), some (.inl 5), some (.inl 0), none]) rfl rfl rfl ?_
                                            refine jv_iload rfl rfl rfl ?_
                                            refine jv_istoreK (L2 := [some (.inr (.inr 94)), some (.inl c), some (.inl r), some (.inl a), some (.inl q), some (.inl 0), some (.inl x6_41_3), some (.inl 1), some (.inl 5), some (.inl 0), some (.inl 1)]) rfl rfl rfl ?_
                                            exfalso; omega
                                        · first
                                          | (exfalso; omega)
                                          | skip
                                            refine jv_iload rfl rfl rfl ?_
                                            refine jv_iconst rfl rfl ?_
                                            refine jv_icmp_ne rfl rfl rfl (fun c55_11 => ?_) (fun c55_11 => ?_)
                                            · first
                                              | (exfalso; omega)
                                              | skip
                                                refine jv_iload rfl rfl rfl ?_
                                                refine jv_iconst rfl rfl ?_
                                                refine jv_icmp_ne rfl rfl rfl (fun c60_11 => ?_) (fun c60_11 => ?_)
                                                · first
                                                  | (exfalso; omega)
                                                  | skip
                                                    refine jv_bipush rfl rfl ?_
                                                    refine jv_istoreK (L2 := [some (.inr (.inr 94)), some (.inl c), some (.inl r), some (.inl a), some (.inl q), some (.inl 0), some (.inl x6_41_3), some (.inl 1), some (.inl 9), none, none]) rfl rfl rfl ?_
                                                    refine jv_iconst rfl rfl ?_
                                                    refine jv_istoreK (L2 := [some (.inr (.inr 94)), some (.inl c), some (.inl r), some (.inl a), some (.inl q), some (.inl 0), some (.inl x6_41_3), some (.inl 1), some (.inl 9), some (.inl 0), none]) rfl rfl rfl ?_
                                                    refine jv_iload rfl rfl rfl ?_
                                                    refine jv_istoreK (L2 := [some (.inr (.inr 94)), some (.inl c), some (.inl r), some (.inl a), some (.inl q), some (.inl 0), some (.inl x6_41_3), some (.inl 1), some (.inl 9), some (.inl 0), some (.inl 1)]) rfl rfl rfl ?_
                                                    exfalso; omega
                                                · first
                                                  | (exfalso; omega)
                                                  | skip
                                                    refine jv_bipush rfl rfl ?_
                                                    refine jv_goto rfl rfl ?_
                                                    refine jv_istoreK (L2 := [some (.inr (.inr 94)), some (.inl c), some (.inl r), some (.inl a), some (.inl q), some (.inl 0), some (.inl x6_41_3), some (.inl 1), some (.inl 29), none, none]) rfl rfl rfl ?_
                                                    refine jv_iconst rfl rfl ?_
                                                    refine jv_istoreK (L2 := [some (.inr (.inr 94)), some (.inl c), some (.inl r), some (.inl a), some (.inl q), some (.inl 0), some (.inl x6_41_3), some (.inl 1), some (.inl 29), some (.inl 0), none]) rfl rfl rfl ?_
                                                    refine jv_iload rfl rfl rfl ?_
                                                    refine jv_istoreK (L2 := [some (.inr (.inr 94)), some (.inl c), some (.inl r), some (.inl a), some (.inl q), some (.inl 0), some (.inl x6_41_3), some (.inl 1), some (.inl 29), some (.inl 0), some (.inl 1)]) rfl rfl rfl ?_
                                                    exfalso; omega
                                            · first
                                              | (exfalso; omega)
                                              | skip
                                                refine jv_iconst rfl rfl ?_
                                                refine jv_goto rfl rfl ?_
                                                refine jv_istoreK (L2 := [some (.inr (.inr 94)), some (.inl c), some (.inl r), some (.inl a), some (.inl q), some (.inl 0), some (.inl x6_41_3), some (.inl 1), some (.inl 5), none, none]) rfl rfl rfl ?_
                                                refine jv_iconst rfl rfl ?_
                                                refine jv_istoreK (L2 := [some (.inr (.inr 94)), some (.inl c), some (.inl r), some (.inl a), some (.inl q), some (.inl 0), some (.inl x6_41_3), some (.inl 1), some (.inl 5), some (.inl 0), none]) rfl rfl rfl ?_
                                                refine jv_iload rfl rfl rfl ?_
                                                refine jv_istoreK (L2 := [some (.inr (.inr 94)), some (.inl c), some (.inl r), some (.inl a), some (.inl q), some (.inl 0), some (.inl x6_41_3), some (.inl 1), some (.inl 5), some (.inl 0), some (.inl 1)]) rfl rfl rfl ?_
                                                exfalso; omega
                        · first
                          | (exfalso; omega)
                          | skip
                            show jV _ _ jm_p_X10_fits _ 19 [some (.inr (.inr 94)), some (.inl c), some (.inl r), some (.inl a), some (.inl q), none, none, none, none, none, none] [.inl (-1000012)] ν18_1
                            refine jv_istoreK (L2 := [some (.inr (.inr 94)), some (.inl c), some (.inl r), some (.inl a), some (.inl q), some (.inl (-1000012)), none, none, none, none, none]) rfl rfl rfl ?_
                            refine jv_iload rfl rfl rfl ?_
                            refine jv_if_eqF rfl rfl (by decide) ?_
                            refine jv_iload rfl rfl rfl ?_
                            refine jv_ireturn rfl (Or.inl rfl) ?_
                            exact ⟨jv_one (by omega), jI_find hI eμ23 eν18_1⟩
                    · first
                      | (exfalso; omega)
                      | skip
                        show jV _ _ jm_p_X10_fits _ 12 [some (.inr (.inr 94)), some (.inl c), some (.inl r), some (.inl a), some (.inl q), none, none, none, none, none, none] [.inl 0] μ23
                        refine jv_if_neF rfl rfl (by decide) ?_
                        refine jv_ldc rfl rfl ?_
                        refine jv_ireturn rfl (Or.inl rfl) ?_
                        exact ⟨jv_one (by omega), by exfalso; omega⟩
                · first
                  | (exfalso; omega)
                  | skip
                    show jV _ _ jm_p_X10_fits _ 6 [some (.inr (.inr 94)), some (.inl c), some (.inl r), some (.inl a), some (.inl q), none, none, none, none, none, none] [.inl 0] μ23
                    refine jv_if_eqT rfl rfl (by decide) ?_
                    refine jv_ldc rfl rfl ?_
                    refine jv_ireturn rfl (Or.inl rfl) ?_
                    exact ⟨jv_one (by omega), by exfalso; omega⟩
            · first
              | (exfalso; omega)
              | skip
                show jV _ _ jm_p_X10_fits _ 3 [some (.inr (.inr 94)), some (.inl c), some (.inl r), some (.inl a), some (.inl q), none, none, none, none, none, none] [.inl 0] μ23
                refine jv_if_eqT rfl rfl (by decide) ?_
                refine jv_ldc rfl rfl ?_
                refine jv_ireturn rfl (Or.inl rfl) ?_
                exact ⟨jv_one (by omega), by exfalso; omega⟩
          · show jV _ _ jm_p_X9_fits _ 18 [some (.inr (.inr 0)), some (.inl c), some (.inl r), some (.inl a), some (.inl q), none] [.inl 0] μ
            refine jv_istoreK (L2 := [some (.inr (.inr 0)), some (.inl c), some (.inl r), some (.inl a), some (.inl q), some (.inl 0)]) rfl rfl rfl ?_
            refine jv_iload rfl rfl rfl ?_
            refine jv_if_eqT rfl rfl (by decide) ?_
            refine jv_aload_n rfl rfl rfl (by decide) ?_
            refine jv_getr (w := 49) rfl rfl rfl ⟨by decide, rfl⟩ rfl rfl ?_
            refine jv_aload_n rfl rfl rfl (by decide) ?_
            refine jv_getr (w := 7) rfl rfl rfl ⟨by decide, rfl⟩ rfl rfl ?_
            refine jv_getr (w := 9) rfl rfl rfl ⟨by decide, rfl⟩ rfl rfl ?_
            refine jv_iload_n rfl rfl rfl ?_
            refine jv_aaloadv (v := 18 + c) rfl rfl rfl ⟨by decide, by decide, by decide⟩ ⟨by omega, by omega⟩ (jH_com hHμ (by omega) (by omega)) ?_
            refine jv_callV1 rfl rfl rfl rfl ⟨by decide, rfl⟩ (Nat.le_of_ble_eq_true rfl) (cl_tryAs (by omega) (fun μ32 yμ32 gμ32 => ?_))
            show jV _ _ jm_p_X9_fits _ 33 [some (.inr (.inr 0)), some (.inl c), some (.inl r), some (.inl a), some (.inl q), some (.inl 0)] [] μ32
            have fμ32 : jf μ μ32 := fun z q => yμ32 z (by omega)
            have hHμ32 := jH_congr (fun z a b => fμ32 z (by omega)) hHμ
            have n3μ32 := jH_3 hHμ32
            have n2μ32 := jH_2 hHμ32
            refine jv_aload_n rfl rfl rfl (by decide) ?_
            refine jv_aload_n rfl rfl rfl (by decide) ?_
            refine jv_getr (w := 49) rfl rfl rfl ⟨by decide, rfl⟩ rfl rfl ?_
            refine jv_aload_n rfl rfl rfl (by decide) ?_
            refine jv_getr (w := 7) rfl rfl rfl ⟨by decide, rfl⟩ rfl rfl ?_
            refine jv_iload rfl rfl rfl ?_
            refine jv_aload_n rfl rfl rfl (by decide) ?_
            refine jv_getr (w := 1) rfl rfl rfl ⟨by decide, rfl⟩ rfl rfl ?_
            refine jv_iload_n rfl rfl rfl ?_
            refine jv_iload_n rfl rfl rfl ?_
            have hrc : μ (18 + c) 0 = μ 95 (32 + c) ∧ μ (18 + c) 1 = μ 95 (38 + c) ∧ μ (18 + c) 2 = μ 95 (44 + c) ∧ μ (18 + c) 3 = μ 95 (50 + c) ∧ μ (18 + c) 4 = μ 95 (56 + c) := rc c (by omega) (by omega)
            obtain ⟨pl, lo, hi, hq⟩ := jq_ex (q := q) (by omega) (by omega)
            have hgl : (fun j : Int => (jm_sa.getD 1 []).getD j.toNat 0) q = lo ∧ (fun j : Int => (jm_sa.getD 2 []).getD j.toNat 0) q = hi := by
              rcases hq with ⟨e, -, e1, e2⟩ | ⟨e, -, e1, e2⟩ | ⟨e, -, e1, e2⟩ | ⟨e, -, e1, e2⟩ <;> rw [e, e1, e2] <;> exact ⟨rfl, rfl⟩
            refine jv_callV5 rfl rfl rfl rfl ⟨by decide, rfl⟩ (Nat.le_of_ble_eq_true rfl) (cl_fitting (g := fun j => μ 99 (40 * r + j)) hHμ32 (by omega) hq rfl rfl hgl.1 hgl.2 (by omega) (by omega) (fun j j0 j1 => by rw [fμ32 2 (by omega)]; exact hit _ (by omega) (by omega)) ⟨jf_id _, fun _ => (gμ32 0 (by decide) (by decide)).trans hrc.1, fun _ => (gμ32 1 (by decide) (by decide)).trans hrc.2.1, fun _ => (gμ32 2 (by decide) (by decide)).trans hrc.2.2.1, fun _ => (gμ32 3 (by decide) (by decide)).trans hrc.2.2.2.1⟩ (fun sμ43 μ43 bμ43 fμ43 => ?_))
            show jV _ _ jm_p_X9_fits _ 44 [some (.inr (.inr 0)), some (.inl c), some (.inl r), some (.inl a), some (.inl q), some (.inl 0)] [.inl sμ43, .inr (.inr 0)] μ43
            refine jv_callV1 rfl rfl rfl rfl ⟨by decide, rfl⟩ (Nat.le_of_ble_eq_true rfl) (cl_unfound (fun μ44 eμ44 => ?_))
            show jV _ _ jm_p_X9_fits _ 45 [some (.inr (.inr 0)), some (.inl c), some (.inl r), some (.inl a), some (.inl q), some (.inl 0)] [.inl sμ43] μ44
            refine jv_ireturn rfl (Or.inl rfl) ?_
            refine ⟨_, rfl, ?_⟩
            have fc : jf μ μ43 := jf_tr fμ32 fμ43
            have g0 : ∀ z, z ≠ 0 → μ44 z = μ43 z := fun z q => by rw [eμ44, jm_off1 q]
            have hUμ44 : jU μ44 (μ 95) := fun j j0 j1 => by rw [g0 95 (by decide), fc 95 (by omega)]
            have g00 : μ44 95 0 = μ 95 0 := hUμ44 0 (by decide) (by decide)
            have g01 : μ44 95 1 = μ 95 1 := hUμ44 1 (by decide) (by decide)
            have g98 : μ44 98 r = μ 98 r := by rw [g0 98 (by decide), fc 98 (by omega)]
            have g94 : μ44 94 1 = μ 94 1 := by rw [g0 94 (by decide), fc 94 (by omega)]
            have g99 : μ44 99 = μ 99 := by rw [g0 99 (by decide), fc 99 (by omega)]
            refine jv_enter (d := 199) jm_p_X10_fits [some (.inr (.inr 94)), some (.inl c), some (.inl r), some (.inl a), some (.inl q), none, none, none, none, none, none] rfl rfl rfl (Nat.le_of_ble_eq_true rfl) rfl rfl ?_
            refine jv_aload_n rfl rfl rfl (by decide) ?_
            refine jv_iload_n rfl rfl rfl ?_
            refine jv_callV1 rfl rfl rfl rfl ⟨by decide, rfl⟩ (Nat.le_of_ble_eq_true rfl) (mo_isComer (by omega) (fun b2 => ?_) (fun b2 => ?_))
            · first
              | (exfalso; omega)
              | skip
                show jV _ _ jm_p_X10_fits _ 3 [some (.inr (.inr 94)), some (.inl c), some (.inl r), some (.inl a), some (.inl q), none, none, none, none, none, none] [.inl 1] μ44
                refine jv_if_eqF rfl rfl (by decide) ?_
                refine jv_iload_n rfl rfl rfl ?_
                refine jv_callS1 rfl rfl rfl (Nat.le_of_ble_eq_true rfl) (mo_isRow (fun b5 => ?_) (fun b5 => ?_))
                · first
                  | (exfalso; omega)
                  | skip
                    show jV _ _ jm_p_X10_fits _ 6 [some (.inr (.inr 94)), some (.inl c), some (.inl r), some (.inl a), some (.inl q), none, none, none, none, none, none] [.inl 1] μ44
                    refine jv_if_eqF rfl rfl (by decide) ?_
                    refine jv_iload rfl rfl rfl ?_
                    refine jv_i2l rfl rfl ?_
                    refine jv_lconst rfl rfl ?_
                    refine jv_ldc2_w rfl rfl ?_
                    refine jv_callS3 rfl rfl rfl (Nat.le_of_ble_eq_true rfl) (mo_in (fun b11 => ?_) (fun b11 => ?_))
                    · first
                      | (exfalso; omega)
                      | skip
                        show jV _ _ jm_p_X10_fits _ 12 [some (.inr (.inr 94)), some (.inl c), some (.inl r), some (.inl a), some (.inl q), none, none, none, none, none, none] [.inl 1] μ44
                        refine jv_if_neT rfl rfl (by decide) ?_
                        refine jv_aload_n rfl rfl rfl (by decide) ?_
                        refine jv_iload_n rfl rfl rfl ?_
                        refine jv_iload_n rfl rfl rfl ?_
                        refine jv_callV2 rfl rfl rfl rfl ⟨by decide, rfl⟩ (Nat.le_of_ble_eq_true rfl) (mo_noItems (by omega) (by omega) (by omega) (by omega) (fun h18_0 ν18 eν18 => ?_) (fun h18_0 h18_1 => ?_) (fun h18_0 h18_1 ν18_1 eν18_1 => ?_))
                        · first
                          | (exfalso; omega)
                          | skip
                            show jV _ _ jm_p_X10_fits _ 19 [some (.inr (.inr 94)), some (.inl c), some (.inl r), some (.inl a), some (.inl q), none, none, none, none, none, none] [.inl (-1000011)] ν18
                            refine jv_istoreK (L2 := [some (.inr (.inr 94)), some (.inl c), some (.inl r), some (.inl a), some (.inl q), some (.inl (-1000011)), none, none, none, none, none]) rfl rfl rfl ?_
                            refine jv_iload rfl rfl rfl ?_
                            refine jv_if_eqF rfl rfl (by decide) ?_
                            refine jv_iload rfl rfl rfl ?_
                            refine jv_ireturn rfl (Or.inl rfl) ?_
                            exact ⟨jv_one (by omega), by exfalso; omega⟩
                        · first
                          | (exfalso; omega)
                          | skip
                            show jV _ _ jm_p_X10_fits _ 19 [some (.inr (.inr 94)), some (.inl c), some (.inl r), some (.inl a), some (.inl q), none, none, none, none, none, none] [.inl 0] μ44
                            refine jv_istoreK (L2 := [some (.inr (.inr 94)), some (.inl c), some (.inl r), some (.inl a), some (.inl q), some (.inl 0), none, none, none, none, none]) rfl rfl rfl ?_
                            refine jv_iload rfl rfl rfl ?_
                            refine jv_if_eqT rfl rfl (by decide) ?_
                            refine jv_iload rfl rfl rfl ?_
                            refine jv_if_ne rfl rfl rfl (fun c25 => ?_) (fun c25 => ?_)
                            · first
                              | (exfalso; omega)
                              | skip
                                refine jv_iload rfl rfl rfl ?_
                                refine jv_iconst rfl rfl ?_
                                refine jv_icmp_ne rfl rfl rfl (fun c30 => ?_) (fun c30 => ?_)
                                · first
                                  | (exfalso; omega)
                                  | skip
                                    refine jv_iload rfl rfl rfl ?_
                                    refine jv_iconst rfl rfl ?_
                                    refine jv_icmp_ne rfl rfl rfl (fun c35 => ?_) (fun c35 => ?_)
                                    · first
                                      | (exfalso; omega)
                                      | skip
                                        refine jv_bipush rfl rfl ?_
                                        refine jv_iload_n rfl rfl rfl ?_
                                        refine jv_iadd rfl rfl ⟨by omega, by omega⟩ ?_
                                        refine jv_istore (fun x => [some (.inr (.inr 94)), some (.inl c), some (.inl r), some (.inl a), some (.inl q), some (.inl 0), some (.inl x), none, none, none, none]) rfl rfl (fun _ => rfl) (fun x6_41 ex6_41 => ?_)
                                        refine jv_iload rfl rfl rfl ?_
                                        refine jv_if_eq rfl rfl rfl (fun c43 => ?_) (fun c43 => ?_)
                                        · first
                                          | (exfalso; omega)
                                          | skip
                                            refine jv_iconst rfl rfl ?_
                                            refine jv_goto rfl rfl ?_
                                            refine jv_istoreK (L2 := [some (.inr (.inr 94)), some (.inl c), some (.inl r), some (.inl a), some (.inl q), some (.inl 0), some (.inl x6_41), some (.inl 1), none, none, none]) rfl rfl rfl ?_
                                            refine jv_iload rfl rfl rfl ?_
                                            refine jv_if_eq rfl rfl rfl (fun c52 => ?_) (fun c52 => ?_)
                                            · first
                                              | (exfalso; omega)
                                              | skip
                                                refine jv_iconst rfl rfl ?_
                                                refine jv_goto rfl rfl ?_
                                                refine jv_istoreK (L2 := [some (.inr (.inr 94)), some (.inl c), some (.inl r), some (.inl a), some (.inl q), some (.inl 0), some (.inl x6_41), some (.inl 1), some (.inl 5), none, none]) rfl rfl rfl ?_
                                                refine jv_iconst rfl rfl ?_
                                                refine jv_istoreK (L2 := [some (.inr (.inr 94)), some (.inl c), some (.inl r), some (.inl a), some (.inl q), some (.inl 0), some (.inl x6_41), some (.inl 1), some (.inl 5), some (.inl 0), none]) rfl rfl rfl ?_
                                                refine jv_iload rfl rfl rfl ?_
                                                refine jv_istoreK (L2 := [some (.inr (.inr 94)), some (.inl c), some (.inl r), some (.inl a), some (.inl q), some (.inl 0), some (.inl x6_41), some (.inl 1), some (.inl 5), some (.inl 0), some (.inl 1)]) rfl rfl rfl ?_
                                                obtain ⟨z1, z2, z3⟩ : pl = 32 ∧ lo = 1 ∧ hi = 5 := by omega
                                                rw [z1, z2, z3] at bμ43
                                                refine mo_fits_l (pl := 32) (lo := 1) (hi := 5) hUμ44 hwf hcf5 (by omega) (by omega) (by omega) (by omega) (by omega) (fun j j0 j1 => by rw [g99]) (fun s2 μz μy b2 fz ey => ?_) 60 0 1 μ44 (by omega) (by omega) (by omega) rfl (jr_id _)
                                                exact ⟨jv_one (jb_is_one _ _ _ (fun _ _ _ => Iff.rfl) b2 bμ43), jI_pairW hI fc eμ44 fz ey⟩
                                            · first
                                              | (exfalso; omega)
                                              | skip
                                                refine jv_iload rfl rfl rfl ?_
                                                refine jv_iconst rfl rfl ?_
                                                refine jv_icmp_ne rfl rfl rfl (fun c55 => ?_) (fun c55 => ?_)
                                                · first
                                                  | (exfalso; omega)
                                                  | skip
                                                    refine jv_iload rfl rfl rfl ?_
                                                    refine jv_iconst rfl rfl ?_
                                                    refine jv_icmp_ne rfl rfl rfl (fun c60 => ?_) (fun c60 => ?_)
                                                    · first
                                                      | (exfalso; omega)
                                                      | skip
                                                        refine jv_bipush rfl rfl ?_
                                                        refine jv_istoreK (L2 := [some (.inr (.inr 94)), some (.inl c), some (.inl r), some (.inl a), some (.inl q), some (.inl 0), some (.inl x6_41), some (.inl 1), some (.inl 9), none, none]) rfl rfl rfl ?_
                                                        refine jv_iconst rfl rfl ?_
                                                        refine jv_istoreK (L2 := [some (.inr (.inr 94)), some (.inl c), some (.inl r), some (.inl a), some (.inl q), some (.inl 0), some (.inl x6_41), some (.inl 1), some (.inl 9), some (.inl 0), none]) rfl rfl rfl ?_
                                                        refine jv_iload rfl rfl rfl ?_
                                                        refine jv_istoreK (L2 := [some (.inr (.inr 94)), some (.inl c), some (.inl r), some (.inl a), some (.inl q), some (.inl 0), some (.inl x6_41), some (.inl 1), some (.inl 9), some (.inl 0), some (.inl 1)]) rfl rfl rfl ?_
                                                        obtain ⟨z1, z2, z3⟩ : pl = 50 ∧ lo = 1 ∧ hi = 9 := by omega
                                                        rw [z1, z2, z3] at bμ43
                                                        refine mo_fits_l (pl := 50) (lo := 1) (hi := 9) hUμ44 hwf hcf5 (by omega) (by omega) (by omega) (by omega) (by omega) (fun j j0 j1 => by rw [g99]) (fun s2 μz μy b2 fz ey => ?_) 60 0 1 μ44 (by omega) (by omega) (by omega) rfl (jr_id _)
                                                        exact ⟨jv_one (jb_is_one _ _ _ (fun _ _ _ => Iff.rfl) b2 bμ43), jI_pairW hI fc eμ44 fz ey⟩
                                                    · first
                                                      | (exfalso; omega)
                                                      | skip
                                                        refine jv_bipush rfl rfl ?_
                                                        refine jv_goto rfl rfl ?_
                                                        refine jv_istoreK (L2 := [some (.inr (.inr 94)), some (.inl c), some (.inl r), some (.inl a), some (.inl q), some (.inl 0), some (.inl x6_41), some (.inl 1), some (.inl 29), none, none]) rfl rfl rfl ?_
                                                        refine jv_iconst rfl rfl ?_
                                                        refine jv_istoreK (L2 := [some (.inr (.inr 94)), some (.inl c), some (.inl r), some (.inl a), some (.inl q), some (.inl 0), some (.inl x6_41), some (.inl 1), some (.inl 29), some (.inl 0), none]) rfl rfl rfl ?_
                                                        refine jv_iload rfl rfl rfl ?_
                                                        refine jv_istoreK (L2 := [some (.inr (.inr 94)), some (.inl c), some (.inl r), some (.inl a), some (.inl q), some (.inl 0), some (.inl x6_41), some (.inl 1), some (.inl 29), some (.inl 0), some (.inl 1)]) rfl rfl rfl ?_
                                                        exfalso; omega
                                                · first
                                                  | (exfalso; omega)
                                                  | skip
                                                    refine jv_iconst rfl rfl ?_
                                                    refine jv_goto rfl rfl ?_
                                                    refine jv_istoreK (L2 := [some (.inr (.inr 94)), some (.inl c), some (.inl r), some (.inl a), some (.inl q), some (.inl 0), some (.inl x6_41), some (.inl 1), some (.inl 5), none, none]) rfl rfl rfl ?_
                                                    refine jv_iconst rfl rfl ?_
                                                    refine jv_istoreK (L2 := [some (.inr (.inr 94)), some (.inl c), some (.inl r), some (.inl a), some (.inl q), some (.inl 0), some (.inl x6_41), some (.inl 1), some (.inl 5), some (.inl 0), none]) rfl rfl rfl ?_
                                                    refine jv_iload rfl rfl rfl ?_
                                                    refine jv_istoreK (L2 := [some (.inr (.inr 94)), some (.inl c), some (.inl r), some (.inl a), some (.inl q), some (.inl 0), some (.inl x6_41), some (.inl 1), some (.inl 5), some (.inl 0), some (.inl 1)]) rfl rfl rfl ?_
                                                    obtain ⟨z1, z2, z3⟩ : pl = 32 ∧ lo = 1 ∧ hi = 5 := by omega
                                                    rw [z1, z2, z3] at bμ43
                                                    refine mo_fits_l (pl := 32) (lo := 1) (hi := 5) hUμ44 hwf hcf5 (by omega) (by omega) (by omega) (by omega) (by omega) (fun j j0 j1 => by rw [g99]) (fun s2 μz μy b2 fz ey => ?_) 60 0 1 μ44 (by omega) (by omega) (by omega) rfl (jr_id _)
                                                    exact ⟨jv_one (jb_is_one _ _ _ (fun _ _ _ => Iff.rfl) b2 bμ43), jI_pairW hI fc eμ44 fz ey⟩
                                        · first
                                          | (exfalso; omega)
                                          | skip
                                            refine jv_iload rfl rfl rfl ?_
                                            refine jv_iconst rfl rfl ?_
                                            refine jv_icmp_ne rfl rfl rfl (fun c46 => ?_) (fun c46 => ?_)
                                            · first
                                              | (exfalso; omega)
                                              | skip
                                                refine jv_iconst rfl rfl ?_
                                                refine jv_istoreK (L2 := [some (.inr (.inr 94)), some (.inl c), some (.inl r), some (.inl a), some (.inl q), some (.inl 0), some (.inl x6_41), some (.inl 0), none, none, none]) rfl rfl rfl ?_
                                                refine jv_iload rfl rfl rfl ?_
                                                refine jv_if_eq rfl rfl rfl (fun c52_1 => ?_) (fun c52_1 => ?_)
                                                · first
                                                  | (exfalso; omega)
                                                  | skip
                                                    refine jv_iconst rfl rfl ?_
                                                    refine jv_goto rfl rfl ?_
                                                    refine jv_istoreK (L2 := [some (.inr (.inr 94)), some (.inl c), some (.inl r), some (.inl a), some (.inl q), some (.inl 0), some (.inl x6_41), some (.inl 0), some (.inl 5), none, none]) rfl rfl rfl ?_
                                                    refine jv_iconst rfl rfl ?_
                                                    refine jv_istoreK (L2 := [some (.inr (.inr 94)), some (.inl c), some (.inl r), some (.inl a), some (.inl q), some (.inl 0), some (.inl x6_41), some (.inl 0), some (.inl 5), some (.inl 0), none]) rfl rfl rfl ?_
                                                    refine jv_iload rfl rfl rfl ?_
                                                    refine jv_istoreK (L2 := [some (.inr (.inr 94)), some (.inl c), some (.inl r), some (.inl a), some (.inl q), some (.inl 0), some (.inl x6_41), some (.inl 0), some (.inl 5), some (.inl 0), some (.inl 0)]) rfl rfl rfl ?_
                                                    obtain ⟨z1, z2, z3⟩ : pl = 44 ∧ lo = 0 ∧ hi = 5 := by omega
                                                    rw [z1, z2, z3] at bμ43
                                                    refine mo_fits_l (pl := 44) (lo := 0) (hi := 5) hUμ44 hwf hcf5 (by omega) (by omega) (by omega) (by omega) (by omega) (fun j j0 j1 => by rw [g99]) (fun s2 μz μy b2 fz ey => ?_) 60 0 0 μ44 (by omega) (by omega) (by omega) rfl (jr_id _)
                                                    exact ⟨jv_one (jb_is_one _ _ _ (fun _ _ _ => Iff.rfl) b2 bμ43), jI_pairW hI fc eμ44 fz ey⟩
                                                · first
                                                  | (exfalso; omega)
                                                  | skip
                                                    refine jv_iload rfl rfl rfl ?_
                                                    refine jv_iconst rfl rfl ?_
                                                    refine jv_icmp_ne rfl rfl rfl (fun c55_1 => ?_) (fun c55_1 => ?_)
                                                    · first
                                                      | (exfalso; omega)
                                                      | skip
                                                        refine jv_iload rfl rfl rfl ?_
                                                        refine jv_iconst rfl rfl ?_
                                                        refine jv_icmp_ne rfl rfl rfl (fun c60_1 => ?_) (fun c60_1 => ?_)
                                                        · first
                                                          | (exfalso; omega)
                                                          | skip
                                                            refine jv_bipush rfl rfl ?_
                                                            refine jv_istoreK (L2 := [some (.inr (.inr 94)), some (.inl c), some (.inl r), some (.inl a), some (.inl q), some (.inl 0), some (.inl x6_41), some (.inl 0), some (.inl 9), none, none]) rfl rfl rfl ?_
                                                            refine jv_iconst rfl rfl ?_
                                                            refine jv_istoreK (L2 := [some (.inr (.inr 94)), some (.inl c), some (.inl r), some (.inl a), some (.inl q), some (.inl 0), some (.inl x6_41), some (.inl 0), some (.inl 9), some (.inl 0), none]) rfl rfl rfl ?_
                                                            refine jv_iload rfl rfl rfl ?_
                                                            refine jv_istoreK (L2 := [some (.inr (.inr 94)), some (.inl c), some (.inl r), some (.inl a), some (.inl q), some (.inl 0), some (.inl x6_41), some (.inl 0), some (.inl 9), some (.inl 0), some (.inl 0)]) rfl rfl rfl ?_
                                                            exfalso; omega
                                                        · first
                                                          | (exfalso; omega)
                                                          | skip
                                                            refine jv_bipush rfl rfl ?_
                                                            refine jv_goto rfl rfl ?_
                                                            refine jv_istoreK (L2 := [some (.inr (.inr 94)), some (.inl c), some (.inl r), some (.inl a), some (.inl q), some (.inl 0), some (.inl x6_41), some (.inl 0), some (.inl 29), none, none]) rfl rfl rfl ?_
                                                            refine jv_iconst rfl rfl ?_
                                                            refine jv_istoreK (L2 := [some (.inr (.inr 94)), some (.inl c), some (.inl r), some (.inl a), some (.inl q), some (.inl 0), some (.inl x6_41), some (.inl 0), some (.inl 29), some (.inl 0), none]) rfl rfl rfl ?_
                                                            refine jv_iload rfl rfl rfl ?_
                                                            refine jv_istoreK (L2 := [some (.inr (.inr 94)), some (.inl c), some (.inl r), some (.inl a), some (.inl q), some (.inl 0), some (.inl x6_41), some (.inl 0), some (.inl 29), some (.inl 0), some (.inl 0)]) rfl rfl rfl ?_
                                                            obtain ⟨z1, z2, z3⟩ : pl = 38 ∧ lo = 0 ∧ hi = 29 := by omega
                                                            rw [z1, z2, z3] at bμ43
                                                            refine mo_fits_l (pl := 38) (lo := 0) (hi := 29) hUμ44 hwf hcf5 (by omega) (by omega) (by omega) (by omega) (by omega) (fun j j0 j1 => by rw [g99]) (fun s2 μz μy b2 fz ey => ?_) 60 0 0 μ44 (by omega) (by omega) (by omega) rfl (jr_id _)
                                                            exact ⟨jv_one (jb_is_one _ _ _ (fun _ _ _ => Iff.rfl) b2 bμ43), jI_pairW hI fc eμ44 fz ey⟩
                                                    · first
                                                      | (exfalso; omega)
                                                      | skip
                                                        refine jv_iconst rfl rfl ?_
                                                        refine jv_goto rfl rfl ?_
                                                        refine jv_istoreK (L2 := [some (.inr (.inr 94)), some (.inl c), some (.inl r), some (.inl a), some (.inl q), some (.inl 0), some (.inl x6_41), some (.inl 0), some (.inl 5), none, none]) rfl rfl rfl ?_
                                                        refine jv_iconst rfl rfl ?_
                                                        refine jv_istoreK (L2 := [some (.inr (.inr 94)), some (.inl c), some (.inl r), some (.inl a), some (.inl q), some (.inl 0), some (.inl x6_41), some (.inl 0), some (.inl 5), some (.inl 0), none]) rfl rfl rfl ?_
                                                        refine jv_iload rfl rfl rfl ?_
                                                        refine jv_istoreK (L2 := [some (.inr (.inr 94)), some (.inl c), some (.inl r), some (.inl a), some (.inl q), some (.inl 0), some (.inl x6_41), some (.inl 0), some (.inl 5), some (.inl 0), some (.inl 0)]) rfl rfl rfl ?_
                                                        obtain ⟨z1, z2, z3⟩ : pl = 44 ∧ lo = 0 ∧ hi = 5 := by omega
                                                        rw [z1, z2, z3] at bμ43
                                                        refine mo_fits_l (pl := 44) (lo := 0) (hi := 5) hUμ44 hwf hcf5 (by omega) (by omega) (by omega) (by omega) (by omega) (fun j j0 j1 => by rw [g99]) (fun s2 μz μy b2 fz ey => ?_) 60 0 0 μ44 (by omega) (by omega) (by omega) rfl (jr_id _)
                                                        exact ⟨jv_one (jb_is_one _ _ _ (fun _ _ _ => Iff.rfl) b2 bμ43), jI_pairW hI fc eμ44 fz ey⟩
                                            · first
                                              | (exfalso; omega)
                                              | skip
                                                refine jv_iconst rfl rfl ?_
                                                refine jv_goto rfl rfl ?_
                                                refine jv_istoreK (L2 := [some (.inr (.inr 94)), some (.inl c), some (.inl r), some (.inl a), some (.inl q), some (.inl 0), some (.inl x6_41), some (.inl 1), none, none, none]) rfl rfl rfl ?_
                                                refine jv_iload rfl rfl rfl ?_
                                                refine jv_if_eq rfl rfl rfl (fun c52_2 => ?_) (fun c52_2 => ?_)
                                                · first
                                                  | (exfalso; omega)
                                                  | skip
                                                    refine jv_iconst rfl rfl ?_
                                                    refine jv_goto rfl rfl ?_
                                                    refine jv_istoreK (L2 := [some (.inr (.inr 94)), some (.inl c), some (.inl r), some (.inl a), some (.inl q), some (.inl 0), some (.inl x6_41), some (.inl 1), some (.inl 5), none, none]) rfl rfl rfl ?_
                                                    refine jv_iconst rfl rfl ?_
                                                    refine jv_istoreK (L2 := [some (.inr (.inr 94)), some (.inl c), some (.inl r), some (.inl a), some (.inl q), some (.inl 0), some (.inl x6_41), some (.inl 1), some (.inl 5), some (.inl 0), none]) rfl rfl rfl ?_
                                                    refine jv_iload rfl rfl rfl ?_
                                                    refine jv_istoreK (L2 := [some (.inr (.inr 94)), some (.inl c), some (.inl r), some (.inl a), some (.inl q), some (.inl 0), some (.inl x6_41), some (.inl 1), some (.inl 5), some (.inl 0), some (.inl 1)]) rfl rfl rfl ?_
                                                    obtain ⟨z1, z2, z3⟩ : pl = 32 ∧ lo = 1 ∧ hi = 5 := by omega
                                                    rw [z1, z2, z3] at bμ43
                                                    refine mo_fits_l (pl := 32) (lo := 1) (hi := 5) hUμ44 hwf hcf5 (by omega) (by omega) (by omega) (by omega) (by omega) (fun j j0 j1 => by rw [g99]) (fun s2 μz μy b2 fz ey => ?_) 60 0 1 μ44 (by omega) (by omega) (by omega) rfl (jr_id _)
                                                    exact ⟨jv_one (jb_is_one _ _ _ (fun _ _ _ => Iff.rfl) b2 bμ43), jI_pairW hI fc eμ44 fz ey⟩
                                                · first
                                                  | (exfalso; omega)
                                                  | skip
                                                    refine jv_iload rfl rfl rfl ?_
                                                    refine jv_iconst rfl rfl ?_
                                                    refine jv_icmp_ne rfl rfl rfl (fun c55_2 => ?_) (fun c55_2 => ?_)
                                                    · first
                                                      | (exfalso; omega)
                                                      | skip
                                                        refine jv_iload rfl rfl rfl ?_
                                                        refine jv_iconst rfl rfl ?_
                                                        refine jv_icmp_ne rfl rfl rfl (fun c60_2 => ?_) (fun c60_2 => ?_)
                                                        · first
                                                          | (exfalso; omega)
                                                          | skip
                                                            refine jv_bipush rfl rfl ?_
                                                            refine jv_istoreK (L2 := [some (.inr (.inr 94)), some (.inl c), some (.inl r), some (.inl a), some (.inl q), some (.inl 0), some (.inl x6_41), some (.inl 1), some (.inl 9), none, none]) rfl rfl rfl ?_
                                                            refine jv_iconst rfl rfl ?_
                                                            refine jv_istoreK (L2 := [some (.inr (.inr 94)), some (.inl c), some (.inl r), some (.inl a), some (.inl q), some (.inl 0), some (.inl x6_41), some (.inl 1), some (.inl 9), some (.inl 0), none]) rfl rfl rfl ?_
                                                            refine jv_iload rfl rfl rfl ?_
                                                            refine jv_istoreK (L2 := [some (.inr (.inr 94)), some (.inl c), some (.inl r), some (.inl a), some (.inl q), some (.inl 0), some (.inl x6_41), some (.inl 1), some (.inl 9), some (.inl 0), some (.inl 1)]) rfl rfl rfl ?_
                                                            obtain ⟨z1, z2, z3⟩ : pl = 50 ∧ lo = 1 ∧ hi = 9 := by omega
                                                            rw [z1, z2, z3] at bμ43
                                                            refine mo_fits_l (pl := 50) (lo := 1) (hi := 9) hUμ44 hwf hcf5 (by omega) (by omega) (by omega) (by omega) (by omega) (fun j j0 j1 => by rw [g99]) (fun s2 μz μy b2 fz ey => ?_) 60 0 1 μ44 (by omega) (by omega) (by omega) rfl (jr_id _)
                                                            exact ⟨jv_one (jb_is_one _ _ _ (fun _ _ _ => Iff.rfl) b2 bμ43), jI_pairW hI fc eμ44 fz ey⟩
                                                        · first
                                                          | (exfalso; omega)
                                                          | skip
                                                            refine jv_bipush rfl rfl ?_
                                                            refine jv_goto rfl rfl ?_
                                                            refine jv_istoreK (L2 := [some (.inr (.inr 94)), some (.inl c), some (.inl r), some (.inl a), some (.inl q), some (.inl 0), some (.inl x6_41), some (.inl 1), some (.inl 29), none, none]) rfl rfl rfl ?_
                                                            refine jv_iconst rfl rfl ?_
                                                            refine jv_istoreK (L2 := [some (.inr (.inr 94)), some (.inl c), some (.inl r), some (.inl a), some (.inl q), some (.inl 0), some (.inl x6_41), some (.inl 1), some (.inl 29), some (.inl 0), none]) rfl rfl rfl ?_
                                                            refine jv_iload rfl rfl rfl ?_
                                                            refine jv_istoreK (L2 := [some (.inr (.inr 94)), some (.inl c), some (.inl r), some (.inl a), some (.inl q), some (.inl 0), some (.inl x6_41), some (.inl 1), some (.inl 29), some (.inl 0), some (.inl 1)]) rfl rfl rfl ?_
                                                            exfalso; omega
                                                    · first
                                                      | (exfalso; omega)
                                                      | skip
                                                        refine jv_iconst rfl rfl ?_
                                                        refine jv_goto rfl rfl ?_
                                                        refine jv_istoreK (L2 := [some (.inr (.inr 94)), some (.inl c), some (.inl r), some (.inl a), some (.inl q), some (.inl 0), some (.inl x6_41), some (.inl 1), some (.inl 5), none, none]) rfl rfl rfl ?_
                                                        refine jv_iconst rfl rfl ?_
                                                        refine jv_istoreK (L2 := [some (.inr (.inr 94)), some (.inl c), some (.inl r), some (.inl a), some (.inl q), some (.inl 0), some (.inl x6_41), some (.inl 1), some (.inl 5), some (.inl 0), none]) rfl rfl rfl ?_
                                                        refine jv_iload rfl rfl rfl ?_
                                                        refine jv_istoreK (L2 := [some (.inr (.inr 94)), some (.inl c), some (.inl r), some (.inl a), some (.inl q), some (.inl 0), some (.inl x6_41), some (.inl 1), some (.inl 5), some (.inl 0), some (.inl 1)]) rfl rfl rfl ?_
                                                        obtain ⟨z1, z2, z3⟩ : pl = 32 ∧ lo = 1 ∧ hi = 5 := by omega
                                                        rw [z1, z2, z3] at bμ43
                                                        refine mo_fits_l (pl := 32) (lo := 1) (hi := 5) hUμ44 hwf hcf5 (by omega) (by omega) (by omega) (by omega) (by omega) (fun j j0 j1 => by rw [g99]) (fun s2 μz μy b2 fz ey => ?_) 60 0 1 μ44 (by omega) (by omega) (by omega) rfl (jr_id _)
                                                        exact ⟨jv_one (jb_is_one _ _ _ (fun _ _ _ => Iff.rfl) b2 bμ43), jI_pairW hI fc eμ44 fz ey⟩
                                    · first
                                      | (exfalso; omega)
                                      | skip
                                        refine jv_bipush rfl rfl ?_
                                        refine jv_goto rfl rfl ?_
                                        refine jv_iload_n rfl rfl rfl ?_
                                        refine jv_iadd rfl rfl ⟨by omega, by omega⟩ ?_
                                        refine jv_istore (fun x => [some (.inr (.inr 94)), some (.inl c), some (.inl r), some (.inl a), some (.inl q), some (.inl 0), some (.inl x), none, none, none, none]) rfl rfl (fun _ => rfl) (fun x6_41_1 ex6_41_1 => ?_)
                                        refine jv_iload rfl rfl rfl ?_
                                        refine jv_if_eq rfl rfl rfl (fun c43_1 => ?_) (fun c43_1 => ?_)
                                        · first
                                          | (exfalso; omega)
                                          | skip
                                            refine jv_iconst rfl rfl ?_
                                            refine jv_goto rfl rfl ?_
                                            refine jv_istoreK (L2 := [some (.inr (.inr 94)), some (.inl c), some (.inl r), some (.inl a), some (.inl q), some (.inl 0), some (.inl x6_41_1), some (.inl 1), none, none, none]) rfl rfl rfl ?_
                                            refine jv_iload rfl rfl rfl ?_
                                            refine jv_if_eq rfl rfl rfl (fun c52_3 => ?_) (fun c52_3 => ?_)
                                            · first
                                              | (exfalso; omega)
                                              | skip
                                                refine jv_iconst rfl rfl ?_
                                                refine jv_goto rfl rfl ?_
                                                refine jv_istoreK (L2 := [some (.inr (.inr 94)), some (.inl c), some (.inl r), some (.inl a), some (.inl q), some (.inl 0), some (.inl x6_41_1), some (.inl 1), some (.inl 5), none, none]) rfl rfl rfl ?_
                                                refine jv_iconst rfl rfl ?_
                                                refine jv_istoreK (L2 := [some (.inr (.inr 94)), some (.inl c), some (.inl r), some (.inl a), some (.inl q), some (.inl 0), some (.inl x6_41_1), some (.inl 1), some (.inl 5), some (.inl 0), none]) rfl rfl rfl ?_
                                                refine jv_iload rfl rfl rfl ?_
                                                refine jv_istoreK (L2 := [some (.inr (.inr 94)), some (.inl c), some (.inl r), some (.inl a), some (.inl q), some (.inl 0), some (.inl x6_41_1), some (.inl 1), some (.inl 5), some (.inl 0), some (.inl 1)]) rfl rfl rfl ?_
                                                obtain ⟨z1, z2, z3⟩ : pl = 32 ∧ lo = 1 ∧ hi = 5 := by omega
                                                rw [z1, z2, z3] at bμ43
                                                refine mo_fits_l (pl := 32) (lo := 1) (hi := 5) hUμ44 hwf hcf5 (by omega) (by omega) (by omega) (by omega) (by omega) (fun j j0 j1 => by rw [g99]) (fun s2 μz μy b2 fz ey => ?_) 60 0 1 μ44 (by omega) (by omega) (by omega) rfl (jr_id _)
                                                exact ⟨jv_one (jb_is_one _ _ _ (fun _ _ _ => Iff.rfl) b2 bμ43), jI_pairW hI fc eμ44 fz ey⟩
                                            · first
                                              | (exfalso; omega)
                                              | skip
                                                refine jv_iload rfl rfl rfl ?_
                                                refine jv_iconst rfl rfl ?_
                                                refine jv_icmp_ne rfl rfl rfl (fun c55_3 => ?_) (fun c55_3 => ?_)
                                                · first
                                                  | (exfalso; omega)
                                                  | skip
                                                    refine jv_iload rfl rfl rfl ?_
                                                    refine jv_iconst rfl rfl ?_
                                                    refine jv_icmp_ne rfl rfl rfl (fun c60_3 => ?_) (fun c60_3 => ?_)
                                                    · first
                                                      | (exfalso; omega)
                                                      | skip
                                                        refine jv_bipush rfl rfl ?_
                                                        refine jv_istoreK (L2 := [some (.inr (.inr 94)), some (.inl c), some (.inl r), some (.inl a), some (.inl q), some (.inl 0), some (.inl x6_41_1), some (.inl 1), some (.inl 9), none, none]) rfl rfl rfl ?_
                                                        refine jv_iconst rfl rfl ?_
                                                        refine jv_istoreK (L2 := [some (.inr (.inr 94)), some (.inl c), some (.inl r), some (.inl a), some (.inl q), some (.inl 0), some (.inl x6_41_1), some (.inl 1), some (.inl 9), some (.inl 0), none]) rfl rfl rfl ?_
                                                        refine jv_iload rfl rfl rfl ?_
                                                        refine jv_istoreK (L2 := [some (.inr (.inr 94)), some (.inl c), some (.inl r), some (.inl a), some (.inl q), some (.inl 0), some (.inl x6_41_1), some (.inl 1), some (.inl 9), some (.inl 0), some (.inl 1)]) rfl rfl rfl ?_
                                                        obtain ⟨z1, z2, z3⟩ : pl = 50 ∧ lo = 1 ∧ hi = 9 := by omega
                                                        rw [z1, z2, z3] at bμ43
                                                        refine mo_fits_l (pl := 50) (lo := 1) (hi := 9) hUμ44 hwf hcf5 (by omega) (by omega) (by omega) (by omega) (by omega) (fun j j0 j1 => by rw [g99]) (fun s2 μz μy b2 fz ey => ?_) 60 0 1 μ44 (by omega) (by omega) (by omega) rfl (jr_id _)
                                                        exact ⟨jv_one (jb_is_one _ _ _ (fun _ _ _ => Iff.rfl) b2 bμ43), jI_pairW hI fc eμ44 fz ey⟩
                                                    · first
                                                      | (exfalso; omega)
                                                      | skip
                                                        refine jv_bipush rfl rfl ?_
                                                        refine jv_goto rfl rfl ?_
                                                        refine jv_istoreK (L2 := [some (.inr (.inr 94)), some (.inl c), some (.inl r), some (.inl a), some (.inl q), some (.inl 0), some (.inl x6_41_1), some (.inl 1), some (.inl 29), none, none]) rfl rfl rfl ?_
                                                        refine jv_iconst rfl rfl ?_
                                                        refine jv_istoreK (L2 := [some (.inr (.inr 94)), some (.inl c), some (.inl r), some (.inl a), some (.inl q), some (.inl 0), some (.inl x6_41_1), some (.inl 1), some (.inl 29), some (.inl 0), none]) rfl rfl rfl ?_
                                                        refine jv_iload rfl rfl rfl ?_
                                                        refine jv_istoreK (L2 := [some (.inr (.inr 94)), some (.inl c), some (.inl r), some (.inl a), some (.inl q), some (.inl 0), some (.inl x6_41_1), some (.inl 1), some (.inl 29), some (.inl 0), some (.inl 1)]) rfl rfl rfl ?_
                                                        exfalso; omega
                                                · first
                                                  | (exfalso; omega)
                                                  | skip
                                                    refine jv_iconst rfl rfl ?_
                                                    refine jv_goto rfl rfl ?_
                                                    refine jv_istoreK (L2 := [some (.inr (.inr 94)), some (.inl c), some (.inl r), some (.inl a), some (.inl q), some (.inl 0), some (.inl x6_41_1), some (.inl 1), some (.inl 5), none, none]) rfl rfl rfl ?_
                                                    refine jv_iconst rfl rfl ?_
                                                    refine jv_istoreK (L2 := [some (.inr (.inr 94)), some (.inl c), some (.inl r), some (.inl a), some (.inl q), some (.inl 0), some (.inl x6_41_1), some (.inl 1), some (.inl 5), some (.inl 0), none]) rfl rfl rfl ?_
                                                    refine jv_iload rfl rfl rfl ?_
                                                    refine jv_istoreK (L2 := [some (.inr (.inr 94)), some (.inl c), some (.inl r), some (.inl a), some (.inl q), some (.inl 0), some (.inl x6_41_1), some (.inl 1), some (.inl 5), some (.inl 0), some (.inl 1)]) rfl rfl rfl ?_
                                                    obtain ⟨z1, z2, z3⟩ : pl = 32 ∧ lo = 1 ∧ hi = 5 := by omega
                                                    rw [z1, z2, z3] at bμ43
                                                    refine mo_fits_l (pl := 32) (lo := 1) (hi := 5) hUμ44 hwf hcf5 (by omega) (by omega) (by omega) (by omega) (by omega) (fun j j0 j1 => by rw [g99]) (fun s2 μz μy b2 fz ey => ?_) 60 0 1 μ44 (by omega) (by omega) (by omega) rfl (jr_id _)
                                                    exact ⟨jv_one (jb_is_one _ _ _ (fun _ _ _ => Iff.rfl) b2 bμ43), jI_pairW hI fc eμ44 fz ey⟩
                                        · first
                                          | (exfalso; omega)
                                          | skip
                                            refine jv_iload rfl rfl rfl ?_
                                            refine jv_iconst rfl rfl ?_
                                            refine jv_icmp_ne rfl rfl rfl (fun c46_1 => ?_) (fun c46_1 => ?_)
                                            · first
                                              | (exfalso; omega)
                                              | skip
                                                refine jv_iconst rfl rfl ?_
                                                refine jv_istoreK (L2 := [some (.inr (.inr 94)), some (.inl c), some (.inl r), some (.inl a), some (.inl q), some (.inl 0), some (.inl x6_41_1), some (.inl 0), none, none, none]) rfl rfl rfl ?_
                                                refine jv_iload rfl rfl rfl ?_
                                                refine jv_if_eq rfl rfl rfl (fun c52_4 => ?_) (fun c52_4 => ?_)
                                                · first
                                                  | (exfalso; omega)
                                                  | skip
                                                    refine jv_iconst rfl rfl ?_
                                                    refine jv_goto rfl rfl ?_
                                                    refine jv_istoreK (L2 := [some (.inr (.inr 94)), some (.inl c), some (.inl r), some (.inl a), some (.inl q), some (.inl 0), some (.inl x6_41_1), some (.inl 0), some (.inl 5), none, none]) rfl rfl rfl ?_
                                                    refine jv_iconst rfl rfl ?_
                                                    refine jv_istoreK (L2 := [some (.inr (.inr 94)), some (.inl c), some (.inl r), some (.inl a), some (.inl q), some (.inl 0), some (.inl x6_41_1), some (.inl 0), some (.inl 5), some (.inl 0), none]) rfl rfl rfl ?_
                                                    refine jv_iload rfl rfl rfl ?_
                                                    refine jv_istoreK (L2 := [some (.inr (.inr 94)), some (.inl c), some (.inl r), some (.inl a), some (.inl q), some (.inl 0), some (.inl x6_41_1), some (.inl 0), some (.inl 5), some (.inl 0), some (.inl 0)]) rfl rfl rfl ?_
                                                    obtain ⟨z1, z2, z3⟩ : pl = 44 ∧ lo = 0 ∧ hi = 5 := by omega
                                                    rw [z1, z2, z3] at bμ43
                                                    refine mo_fits_l (pl := 44) (lo := 0) (hi := 5) hUμ44 hwf hcf5 (by omega) (by omega) (by omega) (by omega) (by omega) (fun j j0 j1 => by rw [g99]) (fun s2 μz μy b2 fz ey => ?_) 60 0 0 μ44 (by omega) (by omega) (by omega) rfl (jr_id _)
                                                    exact ⟨jv_one (jb_is_one _ _ _ (fun _ _ _ => Iff.rfl) b2 bμ43), jI_pairW hI fc eμ44 fz ey⟩
                                                · first
                                                  | (exfalso; omega)
                                                  | skip
                                                    refine jv_iload rfl rfl rfl ?_
                                                    refine jv_iconst rfl rfl ?_
                                                    refine jv_icmp_ne rfl rfl rfl (fun c55_4 => ?_) (fun c55_4 => ?_)
                                                    · first
                                                      | (exfalso; omega)
                                                      | skip
                                                        refine jv_iload rfl rfl rfl ?_
                                                        refine jv_iconst rfl rfl ?_
                                                        refine jv_icmp_ne rfl rfl rfl (fun c60_4 => ?_) (fun c60_4 => ?_)
                                                        · first
                                                          | (exfalso; omega)
                                                          | skip
                                                            refine jv_bipush rfl rfl ?_
                                                            refine jv_istoreK (L2 := [some (.inr (.inr 94)), some (.inl c), some (.inl r), some (.inl a), some (.inl q), some (.inl 0), some (.inl x6_41_1), some (.inl 0), some (.inl 9), none, none]) rfl rfl rfl ?_
                                                            refine jv_iconst rfl rfl ?_
                                                            refine jv_istoreK (L2 := [some (.inr (.inr 94)), some (.inl c), some (.inl r), some (.inl a), some (.inl q), some (.inl 0), some (.inl x6_41_1), some (.inl 0), some (.inl 9), some (.inl 0), none]) rfl rfl rfl ?_
                                                            refine jv_iload rfl rfl rfl ?_
                                                            refine jv_istoreK (L2 := [some (.inr (.inr 94)), some (.inl c), some (.inl r), some (.inl a), some (.inl q), some (.inl 0), some (.inl x6_41_1), some (.inl 0), some (.inl 9), some (.inl 0), some (.inl 0)]) rfl rfl rfl ?_
                                                            exfalso; omega
                                                        · first
                                                          | (exfalso; omega)
                                                          | skip
                                                            refine jv_bipush rfl rfl ?_
                                                            refine jv_goto rfl rfl ?_
                                                            refine jv_istoreK (L2 := [some (.inr (.inr 94)), some (.inl c), some (.inl r), some (.inl a), some (.inl q), some (.inl 0), some (.inl x6_41_1), some (.inl 0), some (.inl 29), none, none]) rfl rfl rfl ?_
                                                            refine jv_iconst rfl rfl ?_
                                                            refine jv_istoreK (L2 := [some (.inr (.inr 94)), some (.inl c), some (.inl r), some (.inl a), some (.inl q), some (.inl 0), some (.inl x6_41_1), some (.inl 0), some (.inl 29), some (.inl 0), none]) rfl rfl rfl ?_
                                                            refine jv_iload rfl rfl rfl ?_
                                                            refine jv_istoreK (L2 := [some (.inr (.inr 94)), some (.inl c), some (.inl r), some (.inl a), some (.inl q), some (.inl 0), some (.inl x6_41_1), some (.inl 0), some (.inl 29), some (.inl 0), some (.inl 0)]) rfl rfl rfl ?_
                                                            obtain ⟨z1, z2, z3⟩ : pl = 38 ∧ lo = 0 ∧ hi = 29 := by omega
                                                            rw [z1, z2, z3] at bμ43
                                                            refine mo_fits_l (pl := 38) (lo := 0) (hi := 29) hUμ44 hwf hcf5 (by omega) (by omega) (by omega) (by omega) (by omega) (fun j j0 j1 => by rw [g99]) (fun s2 μz μy b2 fz ey => ?_) 60 0 0 μ44 (by omega) (by omega) (by omega) rfl (jr_id _)
                                                            exact ⟨jv_one (jb_is_one _ _ _ (fun _ _ _ => Iff.rfl) b2 bμ43), jI_pairW hI fc eμ44 fz ey⟩
                                                    · first
                                                      | (exfalso; omega)
                                                      | skip
                                                        refine jv_iconst rfl rfl ?_
                                                        refine jv_goto rfl rfl ?_
                                                        refine jv_istoreK (L2 := [some (.inr (.inr 94)), some (.inl c), some (.inl r), some (.inl a), some (.inl q), some (.inl 0), some (.inl x6_41_1), some (.inl 0), some (.inl 5), none, none]) rfl rfl rfl ?_
                                                        refine jv_iconst rfl rfl ?_
                                                        refine jv_istoreK (L2 := [some (.inr (.inr 94)), some (.inl c), some (.inl r), some (.inl a), some (.inl q), some (.inl 0), some (.inl x6_41_1), some (.inl 0), some (.inl 5), some (.inl 0), none]) rfl rfl rfl ?_
                                                        refine jv_iload rfl rfl rfl ?_
                                                        refine jv_istoreK (L2 := [some (.inr (.inr 94)), some (.inl c), some (.inl r), some (.inl a), some (.inl q), some (.inl 0), some (.inl x6_41_1), some (.inl 0), some (.inl 5), some (.inl 0), some (.inl 0)]) rfl rfl rfl ?_
                                                        obtain ⟨z1, z2, z3⟩ : pl = 44 ∧ lo = 0 ∧ hi = 5 := by omega
                                                        rw [z1, z2, z3] at bμ43
                                                        refine mo_fits_l (pl := 44) (lo := 0) (hi := 5) hUμ44 hwf hcf5 (by omega) (by omega) (by omega) (by omega) (by omega) (fun j j0 j1 => by rw [g99]) (fun s2 μz μy b2 fz ey => ?_) 60 0 0 μ44 (by omega) (by omega) (by omega) rfl (jr_id _)
                                                        exact ⟨jv_one (jb_is_one _ _ _ (fun _ _ _ => Iff.rfl) b2 bμ43), jI_pairW hI fc eμ44 fz ey⟩
                                            · first
                                              | (exfalso; omega)
                                              | skip
                                                refine jv_iconst rfl rfl ?_
                                                refine jv_goto rfl rfl ?_
                                                refine jv_istoreK (L2 := [some (.inr (.inr 94)), some (.inl c), some (.inl r), some (.inl a), some (.inl q), some (.inl 0), some (.inl x6_41_1), some (.inl 1), none, none, none]) rfl rfl rfl ?_
                                                refine jv_iload rfl rfl rfl ?_
                                                refine jv_if_eq rfl rfl rfl (fun c52_5 => ?_) (fun c52_5 => ?_)
                                                · first
                                                  | (exfalso; omega)
                                                  | skip
                                                    refine jv_iconst rfl rfl ?_
                                                    refine jv_goto rfl rfl ?_
                                                    refine jv_istoreK (L2 := [some (.inr (.inr 94)), some (.inl c), some (.inl r), some (.inl a), some (.inl q), some (.inl 0), some (.inl x6_41_1), some (.inl 1), some (.inl 5), none, none]) rfl rfl rfl ?_
                                                    refine jv_iconst rfl rfl ?_
                                                    refine jv_istoreK (L2 := [some (.inr (.inr 94)), some (.inl c), some (.inl r), some (.inl a), some (.inl q), some (.inl 0), some (.inl x6_41_1), some (.inl 1), some (.inl 5), some (.inl 0), none]) rfl rfl rfl ?_
                                                    refine jv_iload rfl rfl rfl ?_
                                                    refine jv_istoreK (L2 := [some (.inr (.inr 94)), some (.inl c), some (.inl r), some (.inl a), some (.inl q), some (.inl 0), some (.inl x6_41_1), some (.inl 1), some (.inl 5), some (.inl 0), some (.inl 1)]) rfl rfl rfl ?_
                                                    obtain ⟨z1, z2, z3⟩ : pl = 32 ∧ lo = 1 ∧ hi = 5 := by omega
                                                    rw [z1, z2, z3] at bμ43
                                                    refine mo_fits_l (pl := 32) (lo := 1) (hi := 5) hUμ44 hwf hcf5 (by omega) (by omega) (by omega) (by omega) (by omega) (fun j j0 j1 => by rw [g99]) (fun s2 μz μy b2 fz ey => ?_) 60 0 1 μ44 (by omega) (by omega) (by omega) rfl (jr_id _)
                                                    exact ⟨jv_one (jb_is_one _ _ _ (fun _ _ _ => Iff.rfl) b2 bμ43), jI_pairW hI fc eμ44 fz ey⟩
                                                · first
                                                  | (exfalso; omega)
                                                  | skip
                                                    refine jv_iload rfl rfl rfl ?_
                                                    refine jv_iconst rfl rfl ?_
                                                    refine jv_icmp_ne rfl rfl rfl (fun c55_5 => ?_) (fun c55_5 => ?_)
                                                    · first
                                                      | (exfalso; omega)
                                                      | skip
                                                        refine jv_iload rfl rfl rfl ?_
                                                        refine jv_iconst rfl rfl ?_
                                                        refine jv_icmp_ne rfl rfl rfl (fun c60_5 => ?_) (fun c60_5 => ?_)
                                                        · first
                                                          | (exfalso; omega)
                                                          | skip
                                                            refine jv_bipush rfl rfl ?_
                                                            refine jv_istoreK (L2 := [some (.inr (.inr 94)), some (.inl c), some (.inl r), some (.inl a), some (.inl q), some (.inl 0), some (.inl x6_41_1), some (.inl 1), some (.inl 9), none, none]) rfl rfl rfl ?_
                                                            refine jv_iconst rfl rfl ?_
                                                            refine jv_istoreK (L2 := [some (.inr (.inr 94)), some (.inl c), some (.inl r), some (.inl a), some (.inl q), some (.inl 0), some (.inl x6_41_1), some (.inl 1), some (.inl 9), some (.inl 0), none]) rfl rfl rfl ?_
                                                            refine jv_iload rfl rfl rfl ?_
                                                            refine jv_istoreK (L2 := [some (.inr (.inr 94)), some (.inl c), some (.inl r), some (.inl a), some (.inl q), some (.inl 0), some (.inl x6_41_1), some (.inl 1), some (.inl 9), some (.inl 0), some (.inl 1)]) rfl rfl rfl ?_
                                                            obtain ⟨z1, z2, z3⟩ : pl = 50 ∧ lo = 1 ∧ hi = 9 := by omega
                                                            rw [z1, z2, z3] at bμ43
                                                            refine mo_fits_l (pl := 50) (lo := 1) (hi := 9) hUμ44 hwf hcf5 (by omega) (by omega) (by omega) (by omega) (by omega) (fun j j0 j1 => by rw [g99]) (fun s2 μz μy b2 fz ey => ?_) 60 0 1 μ44 (by omega) (by omega) (by omega) rfl (jr_id _)
                                                            exact ⟨jv_one (jb_is_one _ _ _ (fun _ _ _ => Iff.rfl) b2 bμ43), jI_pairW hI fc eμ44 fz ey⟩
                                                        · first
                                                          | (exfalso; omega)
                                                          | skip
                                                            refine jv_bipush rfl rfl ?_
                                                            refine jv_goto rfl rfl ?_
                                                            refine jv_istoreK (L2 := [some (.inr (.inr 94)), some (.inl c), some (.inl r), some (.inl a), some (.inl q), some (.inl 0), some (.inl x6_41_1), some (.inl 1), some (.inl 29), none, none]) rfl rfl rfl ?_
                                                            refine jv_iconst rfl rfl ?_
                                                            refine jv_istoreK (L2 := [some (.inr (.inr 94)), some (.inl c), some (.inl r), some (.inl a), some (.inl q), some (.inl 0), some (.inl x6_41_1), some (.inl 1), some (.inl 29), some (.inl 0), none]) rfl rfl rfl ?_
                                                            refine jv_iload rfl rfl rfl ?_
                                                            refine jv_istoreK (L2 := [some (.inr (.inr 94)), some (.inl c), some (.inl r), some (.inl a), some (.inl q), some (.inl 0), some (.inl x6_41_1), some (.inl 1), some (.inl 29), some (.inl 0), some (.inl 1)]) rfl rfl rfl ?_
                                                            exfalso; omega
                                                    · first
                                                      | (exfalso; omega)
                                                      | skip
                                                        refine jv_iconst rfl rfl ?_
                                                        refine jv_goto rfl rfl ?_
                                                        refine jv_istoreK (L2 := [some (.inr (.inr 94)), some (.inl c), some (.inl r), some (.inl a), some (.inl q), some (.inl 0), some (.inl x6_41_1), some (.inl 1), some (.inl 5), none, none]) rfl rfl rfl ?_
                                                        refine jv_iconst rfl rfl ?_
                                                        refine jv_istoreK (L2 := [some (.inr (.inr 94)), some (.inl c), some (.inl r), some (.inl a), some (.inl q), some (.inl 0), some (.inl x6_41_1), some (.inl 1), some (.inl 5), some (.inl 0), none]) rfl rfl rfl ?_
                                                        refine jv_iload rfl rfl rfl ?_
                                                        refine jv_istoreK (L2 := [some (.inr (.inr 94)), some (.inl c), some (.inl r), some (.inl a), some (.inl q), some (.inl 0), some (.inl x6_41_1), some (.inl 1), some (.inl 5), some (.inl 0), some (.inl 1)]) rfl rfl rfl ?_
                                                        obtain ⟨z1, z2, z3⟩ : pl = 32 ∧ lo = 1 ∧ hi = 5 := by omega
                                                        rw [z1, z2, z3] at bμ43
                                                        refine mo_fits_l (pl := 32) (lo := 1) (hi := 5) hUμ44 hwf hcf5 (by omega) (by omega) (by omega) (by omega) (by omega) (fun j j0 j1 => by rw [g99]) (fun s2 μz μy b2 fz ey => ?_) 60 0 1 μ44 (by omega) (by omega) (by omega) rfl (jr_id _)
                                                        exact ⟨jv_one (jb_is_one _ _ _ (fun _ _ _ => Iff.rfl) b2 bμ43), jI_pairW hI fc eμ44 fz ey⟩
                                · first
                                  | (exfalso; omega)
                                  | skip
                                    refine jv_bipush rfl rfl ?_
                                    refine jv_goto rfl rfl ?_
                                    refine jv_iload_n rfl rfl rfl ?_
                                    refine jv_iadd rfl rfl ⟨by omega, by omega⟩ ?_
                                    refine jv_istore (fun x => [some (.inr (.inr 94)), some (.inl c), some (.inl r), some (.inl a), some (.inl q), some (.inl 0), some (.inl x), none, none, none, none]) rfl rfl (fun _ => rfl) (fun x6_41_2 ex6_41_2 => ?_)
                                    refine jv_iload rfl rfl rfl ?_
                                    refine jv_if_eq rfl rfl rfl (fun c43_2 => ?_) (fun c43_2 => ?_)
                                    · first
                                      | (exfalso; omega)
                                      | skip
                                        refine jv_iconst rfl rfl ?_
                                        refine jv_goto rfl rfl ?_
                                        refine jv_istoreK (L2 := [some (.inr (.inr 94)), some (.inl c), some (.inl r), some (.inl a), some (.inl q), some (.inl 0), some (.inl x6_41_2), some (.inl 1), none, none, none]) rfl rfl rfl ?_
                                        refine jv_iload rfl rfl rfl ?_
                                        refine jv_if_eq rfl rfl rfl (fun c52_6 => ?_) (fun c52_6 => ?_)
                                        · first
                                          | (exfalso; omega)
                                          | skip
                                            refine jv_iconst rfl rfl ?_
                                            refine jv_goto rfl rfl ?_
                                            refine jv_istoreK (L2 := [some (.inr (.inr 94)), some (.inl c), some (.inl r), some (.inl a), some (.inl q), some (.inl 0), some (.inl x6_41_2), some (.inl 1), some (.inl 5), none, none]) rfl rfl rfl ?_
                                            refine jv_iconst rfl rfl ?_
                                            refine jv_istoreK (L2 := [some (.inr (.inr 94)), some (.inl c), some (.inl r), some (.inl a), some (.inl q), some (.inl 0), some (.inl x6_41_2), some (.inl 1), some (.inl 5), some (.inl 0), none]) rfl rfl rfl ?_
                                            refine jv_iload rfl rfl rfl ?_
                                            refine jv_istoreK (L2 := [some (.inr (.inr 94)), some (.inl c), some (.inl r), some (.inl a), some (.inl q), some (.inl 0), some (.inl x6_41_2), some (.inl 1), some (.inl 5), some (.inl 0), some (.inl 1)]) rfl rfl rfl ?_
                                            obtain ⟨z1, z2, z3⟩ : pl = 32 ∧ lo = 1 ∧ hi = 5 := by omega
                                            rw [z1, z2, z3] at bμ43
                                            refine mo_fits_l (pl := 32) (lo := 1) (hi := 5) hUμ44 hwf hcf5 (by omega) (by omega) (by omega) (by omega) (by omega) (fun j j0 j1 => by rw [g99]) (fun s2 μz μy b2 fz ey => ?_) 60 0 1 μ44 (by omega) (by omega) (by omega) rfl (jr_id _)
                                            exact ⟨jv_one (jb_is_one _ _ _ (fun _ _ _ => Iff.rfl) b2 bμ43), jI_pairW hI fc eμ44 fz ey⟩
                                        · first
                                          | (exfalso; omega)
                                          | skip
                                            refine jv_iload rfl rfl rfl ?_
                                            refine jv_iconst rfl rfl ?_
                                            refine jv_icmp_ne rfl rfl rfl (fun c55_6 => ?_) (fun c55_6 => ?_)
                                            · first
                                              | (exfalso; omega)
                                              | skip
                                                refine jv_iload rfl rfl rfl ?_
                                                refine jv_iconst rfl rfl ?_
                                                refine jv_icmp_ne rfl rfl rfl (fun c60_6 => ?_) (fun c60_6 => ?_)
                                                · first
                                                  | (exfalso; omega)
                                                  | skip
                                                    refine jv_bipush rfl rfl ?_
                                                    refine jv_istoreK (L2 := [some (.inr (.inr 94)), some (.inl c), some (.inl r), some (.inl a), some (.inl q), some (.inl 0), some (.inl x6_41_2), some (.inl 1), some (.inl 9), none, none]) rfl rfl rfl ?_
                                                    refine jv_iconst rfl rfl ?_
                                                    refine jv_istoreK (L2 := [some (.inr (.inr 94)), some (.inl c), some (.inl r), some (.inl a), some (.inl q), some (.inl 0), some (.inl x6_41_2), some (.inl 1), some (.inl 9), some (.inl 0), none]) rfl rfl rfl ?_
                                                    refine jv_iload rfl rfl rfl ?_
                                                    refine jv_istoreK (L2 := [some (.inr (.inr 94)), some (.inl c), some (.inl r), some (.inl a), some (.inl q), some (.inl 0), some (.inl x6_41_2), some (.inl 1), some (.inl 9), some (.inl 0), some (.inl 1)]) rfl rfl rfl ?_
                                                    obtain ⟨z1, z2, z3⟩ : pl = 50 ∧ lo = 1 ∧ hi = 9 := by omega
                                                    rw [z1, z2, z3] at bμ43
                                                    refine mo_fits_l (pl := 50) (lo := 1) (hi := 9) hUμ44 hwf hcf5 (by omega) (by omega) (by omega) (by omega) (by omega) (fun j j0 j1 => by rw [g99]) (fun s2 μz μy b2 fz ey => ?_) 60 0 1 μ44 (by omega) (by omega) (by omega) rfl (jr_id _)
                                                    exact ⟨jv_one (jb_is_one _ _ _ (fun _ _ _ => Iff.rfl) b2 bμ43), jI_pairW hI fc eμ44 fz ey⟩
                                                · first
                                                  | (exfalso; omega)
                                                  | skip
                                                    refine jv_bipush rfl rfl ?_
                                                    refine jv_goto rfl rfl ?_
                                                    refine jv_istoreK (L2 := [some (.inr (.inr 94)), some (.inl c), some (.inl r), some (.inl a), some (.inl q), some (.inl 0), some (.inl x6_41_2), some (.inl 1), some (.inl 29), none, none]) rfl rfl rfl ?_
                                                    refine jv_iconst rfl rfl ?_
                                                    refine jv_istoreK (L2 := [some (.inr (.inr 94)), some (.inl c), some (.inl r), some (.inl a), some (.inl q), some (.inl 0), some (.inl x6_41_2), some (.inl 1), some (.inl 29), some (.inl 0), none]) rfl rfl rfl ?_
                                                    refine jv_iload rfl rfl rfl ?_
                                                    refine jv_istoreK (L2 := [some (.inr (.inr 94)), some (.inl c), some (.inl r), some (.inl a), some (.inl q), some (.inl 0), some (.inl x6_41_2), some (.inl 1), some (.inl 29), some (.inl 0), some (.inl 1)]) rfl rfl rfl ?_
                                                    exfalso; omega
                                            · first
                                              | (exfalso; omega)
                                              | skip
                                                refine jv_iconst rfl rfl ?_
                                                refine jv_goto rfl rfl ?_
                                                refine jv_istoreK (L2 := [some (.inr (.inr 94)), some (.inl c), some (.inl r), some (.inl a), some (.inl q), some (.inl 0), some (.inl x6_41_2), some (.inl 1), some (.inl 5), none, none]) rfl rfl rfl ?_
                                                refine jv_iconst rfl rfl ?_
                                                refine jv_istoreK (L2 := [some (.inr (.inr 94)), some (.inl c), some (.inl r), some (.inl a), some (.inl q), some (.inl 0), some (.inl x6_41_2), some (.inl 1), some (.inl 5), some (.inl 0), none]) rfl rfl rfl ?_
                                                refine jv_iload rfl rfl rfl ?_
                                                refine jv_istoreK (L2 := [some (.inr (.inr 94)), some (.inl c), some (.inl r), some (.inl a), some (.inl q), some (.inl 0), some (.inl x6_41_2), some (.inl 1), some (.inl 5), some (.inl 0), some (.inl 1)]) rfl rfl rfl ?_
                                                obtain ⟨z1, z2, z3⟩ : pl = 32 ∧ lo = 1 ∧ hi = 5 := by omega
                                                rw [z1, z2, z3] at bμ43
                                                refine mo_fits_l (pl := 32) (lo := 1) (hi := 5) hUμ44 hwf hcf5 (by omega) (by omega) (by omega) (by omega) (by omega) (fun j j0 j1 => by rw [g99]) (fun s2 μz μy b2 fz ey => ?_) 60 0 1 μ44 (by omega) (by omega) (by omega) rfl (jr_id _)
                                                exact ⟨jv_one (jb_is_one _ _ _ (fun _ _ _ => Iff.rfl) b2 bμ43), jI_pairW hI fc eμ44 fz ey⟩
                                    · first
                                      | (exfalso; omega)
                                      | skip
                                        refine jv_iload rfl rfl rfl ?_
                                        refine jv_iconst rfl rfl ?_
                                        refine jv_icmp_ne rfl rfl rfl (fun c46_2 => ?_) (fun c46_2 => ?_)
                                        · first
                                          | (exfalso; omega)
                                          | skip
                                            refine jv_iconst rfl rfl ?_
                                            refine jv_istoreK (L2 := [some (.inr (.inr 94)), some (.inl c), some (.inl r), some (.inl a), some (.inl q), some (.inl 0), some (.inl x6_41_2), some (.inl 0), none, none, none]) rfl rfl rfl ?_
                                            refine jv_iload rfl rfl rfl ?_
                                            refine jv_if_eq rfl rfl rfl (fun c52_7 => ?_) (fun c52_7 => ?_)
                                            · first
                                              | (exfalso; omega)
                                              | skip
                                                refine jv_iconst rfl rfl ?_
                                                refine jv_goto rfl rfl ?_
                                                refine jv_istoreK (L2 := [some (.inr (.inr 94)), some (.inl c), some (.inl r), some (.inl a), some (.inl q), some (.inl 0), some (.inl x6_41_2), some (.inl 0), some (.inl 5), none, none]) rfl rfl rfl ?_
                                                refine jv_iconst rfl rfl ?_
                                                refine jv_istoreK (L2 := [some (.inr (.inr 94)), some (.inl c), some (.inl r), some (.inl a), some (.inl q), some (.inl 0), some (.inl x6_41_2), some (.inl 0), some (.inl 5), some (.inl 0), none]) rfl rfl rfl ?_
                                                refine jv_iload rfl rfl rfl ?_
                                                refine jv_istoreK (L2 := [some (.inr (.inr 94)), some (.inl c), some (.inl r), some (.inl a), some (.inl q), some (.inl 0), some (.inl x6_41_2), some (.inl 0), some (.inl 5), some (.inl 0), some (.inl 0)]) rfl rfl rfl ?_
                                                obtain ⟨z1, z2, z3⟩ : pl = 44 ∧ lo = 0 ∧ hi = 5 := by omega
                                                rw [z1, z2, z3] at bμ43
                                                refine mo_fits_l (pl := 44) (lo := 0) (hi := 5) hUμ44 hwf hcf5 (by omega) (by omega) (by omega) (by omega) (by omega) (fun j j0 j1 => by rw [g99]) (fun s2 μz μy b2 fz ey => ?_) 60 0 0 μ44 (by omega) (by omega) (by omega) rfl (jr_id _)
                                                exact ⟨jv_one (jb_is_one _ _ _ (fun _ _ _ => Iff.rfl) b2 bμ43), jI_pairW hI fc eμ44 fz ey⟩
                                            · first
                                              | (exfalso; omega)
                                              | skip
                                                refine jv_iload rfl rfl rfl ?_
                                                refine jv_iconst rfl rfl ?_
                                                refine jv_icmp_ne rfl rfl rfl (fun c55_7 => ?_) (fun c55_7 => ?_)
                                                · first
                                                  | (exfalso; omega)
                                                  | skip
                                                    refine jv_iload rfl rfl rfl ?_
                                                    refine jv_iconst rfl rfl ?_
                                                    refine jv_icmp_ne rfl rfl rfl (fun c60_7 => ?_) (fun c60_7 => ?_)
                                                    · first
                                                      | (exfalso; omega)
                                                      | skip
                                                        refine jv_bipush rfl rfl ?_
                                                        refine jv_istoreK (L2 := [some (.inr (.inr 94)), some (.inl c), some (.inl r), some (.inl a), some (.inl q), some (.inl 0), some (.inl x6_41_2), some (.inl 0), some (.inl 9), none, none]) rfl rfl rfl ?_
                                                        refine jv_iconst rfl rfl ?_
                                                        refine jv_istoreK (L2 := [some (.inr (.inr 94)), some (.inl c), some (.inl r), some (.inl a), some (.inl q), some (.inl 0), some (.inl x6_41_2), some (.inl 0), some (.inl 9), some (.inl 0), none]) rfl rfl rfl ?_
                                                        refine jv_iload rfl rfl rfl ?_
                                                        refine jv_istoreK (L2 := [some (.inr (.inr 94)), some (.inl c), some (.inl r), some (.inl a), some (.inl q), some (.inl 0), some (.inl x6_41_2), some (.inl 0), some (.inl 9), some (.inl 0), some (.inl 0)]) rfl rfl rfl ?_
                                                        exfalso; omega
                                                    · first
                                                      | (exfalso; omega)
                                                      | skip
                                                        refine jv_bipush rfl rfl ?_
                                                        refine jv_goto rfl rfl ?_
                                                        refine jv_istoreK (L2 := [some (.inr (.inr 94)), some (.inl c), some (.inl r), some (.inl a), some (.inl q), some (.inl 0), some (.inl x6_41_2), some (.inl 0), some (.inl 29), none, none]) rfl rfl rfl ?_
                                                        refine jv_iconst rfl rfl ?_
                                                        refine jv_istoreK (L2 := [some (.inr (.inr 94)), some (.inl c), some (.inl r), some (.inl a), some (.inl q), some (.inl 0), some (.inl x6_41_2), some (.inl 0), some (.inl 29), some (.inl 0), none]) rfl rfl rfl ?_
                                                        refine jv_iload rfl rfl rfl ?_
                                                        refine jv_istoreK (L2 := [some (.inr (.inr 94)), some (.inl c), some (.inl r), some (.inl a), some (.inl q), some (.inl 0), some (.inl x6_41_2), some (.inl 0), some (.inl 29), some (.inl 0), some (.inl 0)]) rfl rfl rfl ?_
                                                        obtain ⟨z1, z2, z3⟩ : pl = 38 ∧ lo = 0 ∧ hi = 29 := by omega
                                                        rw [z1, z2, z3] at bμ43
                                                        refine mo_fits_l (pl := 38) (lo := 0) (hi := 29) hUμ44 hwf hcf5 (by omega) (by omega) (by omega) (by omega) (by omega) (fun j j0 j1 => by rw [g99]) (fun s2 μz μy b2 fz ey => ?_) 60 0 0 μ44 (by omega) (by omega) (by omega) rfl (jr_id _)
                                                        exact ⟨jv_one (jb_is_one _ _ _ (fun _ _ _ => Iff.rfl) b2 bμ43), jI_pairW hI fc eμ44 fz ey⟩
                                                · first
                                                  | (exfalso; omega)
                                                  | skip
                                                    refine jv_iconst rfl rfl ?_
                                                    refine jv_goto rfl rfl ?_
                                                    refine jv_istoreK (L2 := [some (.inr (.inr 94)), some (.inl c), some (.inl r), some (.inl a), some (.inl q), some (.inl 0), some (.inl x6_41_2), some (.inl 0), some (.inl 5), none, none]) rfl rfl rfl ?_
                                                    refine jv_iconst rfl rfl ?_
                                                    refine jv_istoreK (L2 := [some (.inr (.inr 94)), some (.inl c), some (.inl r), some (.inl a), some (.inl q), some (.inl 0), some (.inl x6_41_2), some (.inl 0), some (.inl 5), some (.inl 0), none]) rfl rfl rfl ?_
                                                    refine jv_iload rfl rfl rfl ?_
                                                    refine jv_istoreK (L2 := [some (.inr (.inr 94)), some (.inl c), some (.inl r), some (.inl a), some (.inl q), some (.inl 0), some (.inl x6_41_2), some (.inl 0), some (.inl 5), some (.inl 0), some (.inl 0)]) rfl rfl rfl ?_
                                                    obtain ⟨z1, z2, z3⟩ : pl = 44 ∧ lo = 0 ∧ hi = 5 := by omega
                                                    rw [z1, z2, z3] at bμ43
                                                    refine mo_fits_l (pl := 44) (lo := 0) (hi := 5) hUμ44 hwf hcf5 (by omega) (by omega) (by omega) (by omega) (by omega) (fun j j0 j1 => by rw [g99]) (fun s2 μz μy b2 fz ey => ?_) 60 0 0 μ44 (by omega) (by omega) (by omega) rfl (jr_id _)
                                                    exact ⟨jv_one (jb_is_one _ _ _ (fun _ _ _ => Iff.rfl) b2 bμ43), jI_pairW hI fc eμ44 fz ey⟩
                                        · first
                                          | (exfalso; omega)
                                          | skip
                                            refine jv_iconst rfl rfl ?_
                                            refine jv_goto rfl rfl ?_
                                            refine jv_istoreK (L2 := [some (.inr (.inr 94)), some (.inl c), some (.inl r), some (.inl a), some (.inl q), some (.inl 0), some (.inl x6_41_2), some (.inl 1), none, none, none]) rfl rfl rfl ?_
                                            refine jv_iload rfl rfl rfl ?_
                                            refine jv_if_eq rfl rfl rfl (fun c52_8 => ?_) (fun c52_8 => ?_)
                                            · first
                                              | (exfalso; omega)
                                              | skip
                                                refine jv_iconst rfl rfl ?_
                                                refine jv_goto rfl rfl ?_
                                                refine jv_istoreK (L2 := [some (.inr (.inr 94)), some (.inl c), some (.inl r), some (.inl a), some (.inl q), some (.inl 0), some (.inl x6_41_2), some (.inl 1), some (.inl 5), none, none]) rfl rfl rfl ?_
                                                refine jv_iconst rfl rfl ?_
                                                refine jv_istoreK (L2 := [some (.inr (.inr 94)), some (.inl c), some (.inl r), some (.inl a), some (.inl q), some (.inl 0), some (.inl x6_41_2), some (.inl 1), some (.inl 5), some (.inl 0), none]) rfl rfl rfl ?_
                                                refine jv_iload rfl rfl rfl ?_
                                                refine jv_istoreK (L2 := [some (.inr (.inr 94)), some (.inl c), some (.inl r), some (.inl a), some (.inl q), some (.inl 0), some (.inl x6_41_2), some (.inl 1), some (.inl 5), some (.inl 0), some (.inl 1)]) rfl rfl rfl ?_
                                                obtain ⟨z1, z2, z3⟩ : pl = 32 ∧ lo = 1 ∧ hi = 5 := by omega
                                                rw [z1, z2, z3] at bμ43
                                                refine mo_fits_l (pl := 32) (lo := 1) (hi := 5) hUμ44 hwf hcf5 (by omega) (by omega) (by omega) (by omega) (by omega) (fun j j0 j1 => by rw [g99]) (fun s2 μz μy b2 fz ey => ?_) 60 0 1 μ44 (by omega) (by omega) (by omega) rfl (jr_id _)
                                                exact ⟨jv_one (jb_is_one _ _ _ (fun _ _ _ => Iff.rfl) b2 bμ43), jI_pairW hI fc eμ44 fz ey⟩
                                            · first
                                              | (exfalso; omega)
                                              | skip
                                                refine jv_iload rfl rfl rfl ?_
                                                refine jv_iconst rfl rfl ?_
                                                refine jv_icmp_ne rfl rfl rfl (fun c55_8 => ?_) (fun c55_8 => ?_)
                                                · first
                                                  | (exfalso; omega)
                                                  | skip
                                                    refine jv_iload rfl rfl rfl ?_
                                                    refine jv_iconst rfl rfl ?_
                                                    refine jv_icmp_ne rfl rfl rfl (fun c60_8 => ?_) (fun c60_8 => ?_)
                                                    · first
                                                      | (exfalso; omega)
                                                      | skip
                                                        refine jv_bipush rfl rfl ?_
                                                        refine jv_istoreK (L2 := [some (.inr (.inr 94)), some (.inl c), some (.inl r), some (.inl a), some (.inl q), some (.inl 0), some (.inl x6_41_2), some (.inl 1), some (.inl 9), none, none]) rfl rfl rfl ?_
                                                        refine jv_iconst rfl rfl ?_
                                                        refine jv_istoreK (L2 := [some (.inr (.inr 94)), some (.inl c), some (.inl r), some (.inl a), some (.inl q), some (.inl 0), some (.inl x6_41_2), some (.inl 1), some (.inl 9), some (.inl 0), none]) rfl rfl rfl ?_
                                                        refine jv_iload rfl rfl rfl ?_
                                                        refine jv_istoreK (L2 := [some (.inr (.inr 94)), some (.inl c), some (.inl r), some (.inl a), some (.inl q), some (.inl 0), some (.inl x6_41_2), some (.inl 1), some (.inl 9), some (.inl 0), some (.inl 1)]) rfl rfl rfl ?_
                                                        obtain ⟨z1, z2, z3⟩ : pl = 50 ∧ lo = 1 ∧ hi = 9 := by omega
                                                        rw [z1, z2, z3] at bμ43
                                                        refine mo_fits_l (pl := 50) (lo := 1) (hi := 9) hUμ44 hwf hcf5 (by omega) (by omega) (by omega) (by omega) (by omega) (fun j j0 j1 => by rw [g99]) (fun s2 μz μy b2 fz ey => ?_) 60 0 1 μ44 (by omega) (by omega) (by omega) rfl (jr_id _)
                                                        exact ⟨jv_one (jb_is_one _ _ _ (fun _ _ _ => Iff.rfl) b2 bμ43), jI_pairW hI fc eμ44 fz ey⟩
                                                    · first
                                                      | (exfalso; omega)
                                                      | skip
                                                        refine jv_bipush rfl rfl ?_
                                                        refine jv_goto rfl rfl ?_
                                                        refine jv_istoreK (L2 := [some (.inr (.inr 94)), some (.inl c), some (.inl r), some (.inl a), some (.inl q), some (.inl 0), some (.inl x6_41_2), some (.inl 1), some (.inl 29), none, none]) rfl rfl rfl ?_
                                                        refine jv_iconst rfl rfl ?_
                                                        refine jv_istoreK (L2 := [some (.inr (.inr 94)), some (.inl c), some (.inl r), some (.inl a), some (.inl q), some (.inl 0), some (.inl x6_41_2), some (.inl 1), some (.inl 29), some (.inl 0), none]) rfl rfl rfl ?_
                                                        refine jv_iload rfl rfl rfl ?_
                                                        refine jv_istoreK (L2 := [some (.inr (.inr 94)), some (.inl c), some (.inl r), some (.inl a), some (.inl q), some (.inl 0), some (.inl x6_41_2), some (.inl 1), some (.inl 29), some (.inl 0), some (.inl 1)]) rfl rfl rfl ?_
                                                        exfalso; omega
                                                · first
                                                  | (exfalso; omega)
                                                  | skip
                                                    refine jv_iconst rfl rfl ?_
                                                    refine jv_goto rfl rfl ?_
                                                    refine jv_istoreK (L2 := [some (.inr (.inr 94)), some (.inl c), some (.inl r), some (.inl a), some (.inl q), some (.inl 0), some (.inl x6_41_2), some (.inl 1), some (.inl 5), none, none]) rfl rfl rfl ?_
                                                    refine jv_iconst rfl rfl ?_
                                                    refine jv_istoreK (L2 := [some (.inr (.inr 94)), some (.inl c), some (.inl r), some (.inl a), some (.inl q), some (.inl 0), some (.inl x6_41_2), some (.inl 1), some (.inl 5), some (.inl 0), none]) rfl rfl rfl ?_
                                                    refine jv_iload rfl rfl rfl ?_
                                                    refine jv_istoreK (L2 := [some (.inr (.inr 94)), some (.inl c), some (.inl r), some (.inl a), some (.inl q), some (.inl 0), some (.inl x6_41_2), some (.inl 1), some (.inl 5), some (.inl 0), some (.inl 1)]) rfl rfl rfl ?_
                                                    obtain ⟨z1, z2, z3⟩ : pl = 32 ∧ lo = 1 ∧ hi = 5 := by omega
                                                    rw [z1, z2, z3] at bμ43
                                                    refine mo_fits_l (pl := 32) (lo := 1) (hi := 5) hUμ44 hwf hcf5 (by omega) (by omega) (by omega) (by omega) (by omega) (fun j j0 j1 => by rw [g99]) (fun s2 μz μy b2 fz ey => ?_) 60 0 1 μ44 (by omega) (by omega) (by omega) rfl (jr_id _)
                                                    exact ⟨jv_one (jb_is_one _ _ _ (fun _ _ _ => Iff.rfl) b2 bμ43), jI_pairW hI fc eμ44 fz ey⟩
                            · first
                              | (exfalso; omega)
                              | skip
                                refine jv_bipush rfl rfl ?_
                                refine jv_goto rfl rfl ?_
                                refine jv_iload_n rfl rfl rfl ?_
                                refine jv_iadd rfl rfl ⟨by omega, by omega⟩ ?_
                                refine jv_istore (fun x => [some (.inr (.inr 94)), some (.inl c), some (.inl r), some (.inl a), some (.inl q), some (.inl 0), some (.inl x), none, none, none, none]) rfl rfl (fun _ => rfl) (fun x6_41_3 ex6_41_3 => ?_)
                                refine jv_iload rfl rfl rfl ?_
                                refine jv_if_eq rfl rfl rfl (fun c43_3 => ?_) (fun c43_3 => ?_)
                                · first
                                  | (exfalso; omega)
                                  | skip
                                    refine jv_iconst rfl rfl ?_
                                    refine jv_goto rfl rfl ?_
                                    refine jv_istoreK (L2 := [some (.inr (.inr 94)), some (.inl c), some (.inl r), some (.inl a), some (.inl q), some (.inl 0), some (.inl x6_41_3), some (.inl 1), none, none, none]) rfl rfl rfl ?_
                                    refine jv_iload rfl rfl rfl ?_
                                    refine jv_if_eq rfl rfl rfl (fun c52_9 => ?_) (fun c52_9 => ?_)
                                    · first
                                      | (exfalso; omega)
                                      | skip
                                        refine jv_iconst rfl rfl ?_
                                        refine jv_goto rfl rfl ?_
                                        refine jv_istoreK (L2 := [some (.inr (.inr 94)), some (.inl c), some (.inl r), some (.inl a), some (.inl q), some (.inl 0), some (.inl x6_41_3), some (.inl 1), some (.inl 5), none, none]) rfl rfl rfl ?_
                                        refine jv_iconst rfl rfl ?_
                                        refine jv_istoreK (L2 := [some (.inr (.inr 94)), some (.inl c), some (.inl r), some (.inl a), some (.inl q), some (.inl 0), some (.inl x6_41_3), some (.inl 1), some (.inl 5), some (.inl 0), none]) rfl rfl rfl ?_
                                        refine jv_iload rfl rfl rfl ?_
                                        refine jv_istoreK (L2 := [some (.inr (.inr 94)), some (.inl c), some (.inl r), some (.inl a), some (.inl q), some (.inl 0), some (.inl x6_41_3), some (.inl 1), some (.inl 5), some (.inl 0), some (.inl 1)]) rfl rfl rfl ?_
                                        obtain ⟨z1, z2, z3⟩ : pl = 32 ∧ lo = 1 ∧ hi = 5 := by omega
                                        rw [z1, z2, z3] at bμ43
                                        refine mo_fits_l (pl := 32) (lo := 1) (hi := 5) hUμ44 hwf hcf5 (by omega) (by omega) (by omega) (by omega) (by omega) (fun j j0 j1 => by rw [g99]) (fun s2 μz μy b2 fz ey => ?_) 60 0 1 μ44 (by omega) (by omega) (by omega) rfl (jr_id _)
                                        exact ⟨jv_one (jb_is_one _ _ _ (fun _ _ _ => Iff.rfl) b2 bμ43), jI_pairW hI fc eμ44 fz ey⟩
                                    · first
                                      | (exfalso; omega)
                                      | skip
                                        refine jv_iload rfl rfl rfl ?_
                                        refine jv_iconst rfl rfl ?_
                                        refine jv_icmp_ne rfl rfl rfl (fun c55_9 => ?_) (fun c55_9 => ?_)
                                        · first
                                          | (exfalso; omega)
                                          | skip
                                            refine jv_iload rfl rfl rfl ?_
                                            refine jv_iconst rfl rfl ?_
                                            refine jv_icmp_ne rfl rfl rfl (fun c60_9 => ?_) (fun c60_9 => ?_)
                                            · first
                                              | (exfalso; omega)
                                              | skip
                                                refine jv_bipush rfl rfl ?_
                                                refine jv_istoreK (L2 := [some (.inr (.inr 94)), some (.inl c), some (.inl r), some (.inl a), some (.inl q), some (.inl 0), some (.inl x6_41_3), some (.inl 1), some (.inl 9), none, none]) rfl rfl rfl ?_
                                                refine jv_iconst rfl rfl ?_
                                                refine jv_istoreK (L2 := [some (.inr (.inr 94)), some (.inl c), some (.inl r), some (.inl a), some (.inl q), some (.inl 0), some (.inl x6_41_3), some (.inl 1), some (.inl 9), some (.inl 0), none]) rfl rfl rfl ?_
                                                refine jv_iload rfl rfl rfl ?_
                                                refine jv_istoreK (L2 := [some (.inr (.inr 94)), some (.inl c), some (.inl r), some (.inl a), some (.inl q), some (.inl 0), some (.inl x6_41_3), some (.inl 1), some (.inl 9), some (.inl 0), some (.inl 1)]) rfl rfl rfl ?_
                                                obtain ⟨z1, z2, z3⟩ : pl = 50 ∧ lo = 1 ∧ hi = 9 := by omega
                                                rw [z1, z2, z3] at bμ43
                                                refine mo_fits_l (pl := 50) (lo := 1) (hi := 9) hUμ44 hwf hcf5 (by omega) (by omega) (by omega) (by omega) (by omega) (fun j j0 j1 => by rw [g99]) (fun s2 μz μy b2 fz ey => ?_) 60 0 1 μ44 (by omega) (by omega) (by omega) rfl (jr_id _)
                                                exact ⟨jv_one (jb_is_one _ _ _ (fun _ _ _ => Iff.rfl) b2 bμ43), jI_pairW hI fc eμ44 fz ey⟩
                                            · first
                                              | (exfalso; omega)
                                              | skip
                                                refine jv_bipush rfl rfl ?_
                                                refine jv_goto rfl rfl ?_
                                                refine jv_istoreK (L2 := [some (.inr (.inr 94)), some (.inl c), some (.inl r), some (.inl a), some (.inl q), some (.inl 0), some (.inl x6_41_3), some (.inl 1), some (.inl 29), none, none]) rfl rfl rfl ?_
                                                refine jv_iconst rfl rfl ?_
                                                refine jv_istoreK (L2 := [some (.inr (.inr 94)), some (.inl c), some (.inl r), some (.inl a), some (.inl q), some (.inl 0), some (.inl x6_41_3), some (.inl 1), some (.inl 29), some (.inl 0), none]) rfl rfl rfl ?_
                                                refine jv_iload rfl rfl rfl ?_
                                                refine jv_istoreK (L2 := [some (.inr (.inr 94)), some (.inl c), some (.inl r), some (.inl a), some (.inl q), some (.inl 0), some (.inl x6_41_3), some (.inl 1), some (.inl 29), some (.inl 0), some (.inl 1)]) rfl rfl rfl ?_
                                                exfalso; omega
                                        · first
                                          | (exfalso; omega)
                                          | skip
                                            refine jv_iconst rfl rfl ?_
                                            refine jv_goto rfl rfl ?_
                                            refine jv_istoreK (L2 := [some (.inr (.inr 94)), some (.inl c), some (.inl r), some (.inl a), some (.inl q), some (.inl 0), some (.inl x6_41_3), some (.inl 1), some (.inl 5), none, none]) rfl rfl rfl ?_
                                            refine jv_iconst rfl rfl ?_
                                            refine jv_istoreK (L2 := [some (.inr (.inr 94)), some (.inl c), some (.inl r), some (.inl a), some (.inl q), some (.inl 0), some (.inl x6_41_3), some (.inl 1), some (.inl 5), some (.inl 0), none]) rfl rfl rfl ?_
                                            refine jv_iload rfl rfl rfl ?_
                                            refine jv_istoreK (L2 := [some (.inr (.inr 94)), some (.inl c), some (.inl r), some (.inl a), some (.inl q), some (.inl 0), some (.inl x6_41_3), some (.inl 1), some (.inl 5), some (.inl 0), some (.inl 1)]) rfl rfl rfl ?_
                                            obtain ⟨z1, z2, z3⟩ : pl = 32 ∧ lo = 1 ∧ hi = 5 := by omega
                                            rw [z1, z2, z3] at bμ43
                                            refine mo_fits_l (pl := 32) (lo := 1) (hi := 5) hUμ44 hwf hcf5 (by omega) (by omega) (by omega) (by omega) (by omega) (fun j j0 j1 => by rw [g99]) (fun s2 μz μy b2 fz ey => ?_) 60 0 1 μ44 (by omega) (by omega) (by omega) rfl (jr_id _)
                                            exact ⟨jv_one (jb_is_one _ _ _ (fun _ _ _ => Iff.rfl) b2 bμ43), jI_pairW hI fc eμ44 fz ey⟩
                                · first
                                  | (exfalso; omega)
                                  | skip
                                    refine jv_iload rfl rfl rfl ?_
                                    refine jv_iconst rfl rfl ?_
                                    refine jv_icmp_ne rfl rfl rfl (fun c46_3 => ?_) (fun c46_3 => ?_)
                                    · first
                                      | (exfalso; omega)
                                      | skip
                                        refine jv_iconst rfl rfl ?_
                                        refine jv_istoreK (L2 := [some (.inr (.inr 94)), some (.inl c), some (.inl r), some (.inl a), some (.inl q), some (.inl 0), some (.inl x6_41_3), some (.inl 0), none, none, none]) rfl rfl rfl ?_
                                        refine jv_iload rfl rfl rfl ?_
                                        refine jv_if_eq rfl rfl rfl (fun c52_10 => ?_) (fun c52_10 => ?_)
                                        · first
                                          | (exfalso; omega)
                                          | skip
                                            refine jv_iconst rfl rfl ?_
                                            refine jv_goto rfl rfl ?_
                                            refine jv_istoreK (L2 := [some (.inr (.inr 94)), some (.inl c), some (.inl r), some (.inl a), some (.inl q), some (.inl 0), some (.inl x6_41_3), some (.inl 0), some (.inl 5), none, none]) rfl rfl rfl ?_
                                            refine jv_iconst rfl rfl ?_
                                            refine jv_istoreK (L2 := [some (.inr (.inr 94)), some (.inl c), some (.inl r), some (.inl a), some (.inl q), some (.inl 0), some (.inl x6_41_3), some (.inl 0), some (.inl 5), some (.inl 0), none]) rfl rfl rfl ?_
                                            refine jv_iload rfl rfl rfl ?_
                                            refine jv_istoreK (L2 := [some (.inr (.inr 94)), some (.inl c), some (.inl r), some (.inl a), some (.inl q), some (.inl 0), some (.inl x6_41_3), some (.inl 0), some (.inl 5), some (.inl 0), some (.inl 0)]) rfl rfl rfl ?_
                                            obtain ⟨z1, z2, z3⟩ : pl = 44 ∧ lo = 0 ∧ hi = 5 := by omega
                                            rw [z1, z2, z3] at bμ43
                                            refine mo_fits_l (pl := 44) (lo := 0) (hi := 5) hUμ44 hwf hcf5 (by omega) (by omega) (by omega) (by omega) (by omega) (fun j j0 j1 => by rw [g99]) (fun s2 μz μy b2 fz ey => ?_) 60 0 0 μ44 (by omega) (by omega) (by omega) rfl (jr_id _)
                                            exact ⟨jv_one (jb_is_one _ _ _ (fun _ _ _ => Iff.rfl) b2 bμ43), jI_pairW hI fc eμ44 fz ey⟩
                                        · first
                                          | (exfalso; omega)
                                          | skip
                                            refine jv_iload rfl rfl rfl ?_
                                            refine jv_iconst rfl rfl ?_
                                            refine jv_icmp_ne rfl rfl rfl (fun c55_10 => ?_) (fun c55_10 => ?_)
                                            · first
                                              | (exfalso; omega)
                                              | skip
                                                refine jv_iload rfl rfl rfl ?_
                                                refine jv_iconst rfl rfl ?_
                                                refine jv_icmp_ne rfl rfl rfl (fun c60_10 => ?_) (fun c60_10 => ?_)
                                                · first
                                                  | (exfalso; omega)
                                                  | skip
                                                    refine jv_bipush rfl rfl ?_
                                                    refine jv_istoreK (L2 := [some (.inr (.inr 94)), some (.inl c), some (.inl r), some (.inl a), some (.inl q), some (.inl 0), some (.inl x6_41_3), some (.inl 0), some (.inl 9), none, none]) rfl rfl rfl ?_
                                                    refine jv_iconst rfl rfl ?_
                                                    refine jv_istoreK (L2 := [some (.inr (.inr 94)), some (.inl c), some (.inl r), some (.inl a), some (.inl q), some (.inl 0), some (.inl x6_41_3), some (.inl 0), some (.inl 9), some (.inl 0), none]) rfl rfl rfl ?_
                                                    refine jv_iload rfl rfl rfl ?_
                                                    refine jv_istoreK (L2 := [some (.inr (.inr 94)), some (.inl c), some (.inl r), some (.inl a), some (.inl q), some (.inl 0), some (.inl x6_41_3), some (.inl 0), some (.inl 9), some (.inl 0), some (.inl 0)]) rfl rfl rfl ?_
                                                    exfalso; omega
                                                · first
                                                  | (exfalso; omega)
                                                  | skip
                                                    refine jv_bipush rfl rfl ?_
                                                    refine jv_goto rfl rfl ?_
                                                    refine jv_istoreK (L2 := [some (.inr (.inr 94)), some (.inl c), some (.inl r), some (.inl a), some (.inl q), some (.inl 0), some (.inl x6_41_3), some (.inl 0), some (.inl 29), none, none]) rfl rfl rfl ?_
                                                    refine jv_iconst rfl rfl ?_
                                                    refine jv_istoreK (L2 := [some (.inr (.inr 94)), some (.inl c), some (.inl r), some (.inl a), some (.inl q), some (.inl 0), some (.inl x6_41_3), some (.inl 0), some (.inl 29), some (.inl 0), none]) rfl rfl rfl ?_
                                                    refine jv_iload rfl rfl rfl ?_
                                                    refine jv_istoreK (L2 := [some (.inr (.inr 94)), some (.inl c), some (.inl r), some (.inl a), some (.inl q), some (.inl 0), some (.inl x6_41_3), some (.inl 0), some (.inl 29), some (.inl 0), some (.inl 0)]) rfl rfl rfl ?_
                                                    obtain ⟨z1, z2, z3⟩ : pl = 38 ∧ lo = 0 ∧ hi = 29 := by omega
                                                    rw [z1, z2, z3] at bμ43
                                                    refine mo_fits_l (pl := 38) (lo := 0) (hi := 29) hUμ44 hwf hcf5 (by omega) (by omega) (by omega) (by omega) (by omega) (fun j j0 j1 => by rw [g99]) (fun s2 μz μy b2 fz ey => ?_) 60 0 0 μ44 (by omega) (by omega) (by omega) rfl (jr_id _)
                                                    exact ⟨jv_one (jb_is_one _ _ _ (fun _ _ _ => Iff.rfl) b2 bμ43), jI_pairW hI fc eμ44 fz ey⟩
                                            · first
                                              | (exfalso; omega)
                                              | skip
                                                refine jv_iconst rfl rfl ?_
                                                refine jv_goto rfl rfl ?_
                                                refine jv_istoreK (L2 := [some (.inr (.inr 94)), some (.inl c), some (.inl r), some (.inl a), some (.inl q), some (.inl 0), some (.inl x6_41_3), some (.inl 0), some (.inl 5), none, none]) rfl rfl rfl ?_
                                                refine jv_iconst rfl rfl ?_
                                                refine jv_istoreK (L2 := [some (.inr (.inr 94)), some (.inl c), some (.inl r), some (.inl a), some (.inl q), some (.inl 0), some (.inl x6_41_3), some (.inl 0), some (.inl 5), some (.inl 0), none]) rfl rfl rfl ?_
                                                refine jv_iload rfl rfl rfl ?_
                                                refine jv_istoreK (L2 := [some (.inr (.inr 94)), some (.inl c), some (.inl r), some (.inl a), some (.inl q), some (.inl 0), some (.inl x6_41_3), some (.inl 0), some (.inl 5), some (.inl 0), some (.inl 0)]) rfl rfl rfl ?_
                                                obtain ⟨z1, z2, z3⟩ : pl = 44 ∧ lo = 0 ∧ hi = 5 := by omega
                                                rw [z1, z2, z3] at bμ43
                                                refine mo_fits_l (pl := 44) (lo := 0) (hi := 5) hUμ44 hwf hcf5 (by omega) (by omega) (by omega) (by omega) (by omega) (fun j j0 j1 => by rw [g99]) (fun s2 μz μy b2 fz ey => ?_) 60 0 0 μ44 (by omega) (by omega) (by omega) rfl (jr_id _)
                                                exact ⟨jv_one (jb_is_one _ _ _ (fun _ _ _ => Iff.rfl) b2 bμ43), jI_pairW hI fc eμ44 fz ey⟩
                                    · first
                                      | (exfalso; omega)
                                      | skip
                                        refine jv_iconst rfl rfl ?_
                                        refine jv_goto rfl rfl ?_
                                        refine jv_istoreK (L2 := [some (.inr (.inr 94)), some (.inl c), some (.inl r), some (.inl a), some (.inl q), some (.inl 0), some (.inl x6_41_3), some (.inl 1), none, none, none]) rfl rfl rfl ?_
                                        refine jv_iload rfl rfl rfl ?_
                                        refine jv_if_eq rfl rfl rfl (fun c52_11 => ?_) (fun c52_11 => ?_)
                                        · first
                                          | (exfalso; omega)
                                          | skip
                                            refine jv_iconst rfl rfl ?_
                                            refine jv_goto rfl rfl ?_
                                            refine jv_istoreK (L2 := [some (.inr (.inr 94)), some (.inl c), some (.inl r), some (.inl a), some (.inl q), some (.inl 0), some (.inl x6_41_3), some (.inl 1), some (.inl 5), none, none]) rfl rfl rfl ?_
                                            refine jv_iconst rfl rfl ?_
                                            refine jv_istoreK (L2 := [some (.inr (.inr 94)), some (.inl c), some (.inl r), some (.inl a), some (.inl q), some (.inl 0), some (.inl x6_41_3), some (.inl 1), some (.inl 5), some (.inl 0), none]) rfl rfl rfl ?_
                                            refine jv_iload rfl rfl rfl ?_
                                            refine jv_istoreK (L2 := [some (.inr (.inr 94)), some (.inl c), some (.inl r), some (.inl a), some (.inl q), some (.inl 0), some (.inl x6_41_3), some (.inl 1), some (.inl 5), some (.inl 0), some (.inl 1)]) rfl rfl rfl ?_
                                            obtain ⟨z1, z2, z3⟩ : pl = 32 ∧ lo = 1 ∧ hi = 5 := by omega
                                            rw [z1, z2, z3] at bμ43
                                            refine mo_fits_l (pl := 32) (lo := 1) (hi := 5) hUμ44 hwf hcf5 (by omega) (by omega) (by omega) (by omega) (by omega) (fun j j0 j1 => by rw [g99]) (fun s2 μz μy b2 fz ey => ?_) 60 0 1 μ44 (by omega) (by omega) (by omega) rfl (jr_id _)
                                            exact ⟨jv_one (jb_is_one _ _ _ (fun _ _ _ => Iff.rfl) b2 bμ43), jI_pairW hI fc eμ44 fz ey⟩
                                        · first
                                          | (exfalso; omega)
                                          | skip
                                            refine jv_iload rfl rfl rfl ?_
                                            refine jv_iconst rfl rfl ?_
                                            refine jv_icmp_ne rfl rfl rfl (fun c55_11 => ?_) (fun c55_11 => ?_)
                                            · first
                                              | (exfalso; omega)
                                              | skip
                                                refine jv_iload rfl rfl rfl ?_
                                                refine jv_iconst rfl rfl ?_
                                                refine jv_icmp_ne rfl rfl rfl (fun c60_11 => ?_) (fun c60_11 => ?_)
                                                · first
                                                  | (exfalso; omega)
                                                  | skip
                                                    refine jv_bipush rfl rfl ?_
                                                    refine jv_istoreK (L2 := [some (.inr (.inr 94)), some (.inl c), some (.inl r), some (.inl a), some (.inl q), some (.inl 0), some (.inl x6_41_3), some (.inl 1), some (.inl 9), none, none]) rfl rfl rfl ?_
                                                    refine jv_iconst rfl rfl ?_
                                                    refine jv_istoreK (L2 := [some (.inr (.inr 94)), some (.inl c), some (.inl r), some (.inl a), some (.inl q), some (.inl 0), some (.inl x6_41_3), some (.inl 1), some (.inl 9), some (.inl 0), none]) rfl rfl rfl ?_
                                                    refine jv_iload rfl rfl rfl ?_
                                                    refine jv_istoreK (L2 := [some (.inr (.inr 94)), some (.inl c), some (.inl r), some (.inl a), some (.inl q), some (.inl 0), some (.inl x6_41_3), some (.inl 1), some (.inl 9), some (.inl 0), some (.inl 1)]) rfl rfl rfl ?_
                                                    obtain ⟨z1, z2, z3⟩ : pl = 50 ∧ lo = 1 ∧ hi = 9 := by omega
                                                    rw [z1, z2, z3] at bμ43
                                                    refine mo_fits_l (pl := 50) (lo := 1) (hi := 9) hUμ44 hwf hcf5 (by omega) (by omega) (by omega) (by omega) (by omega) (fun j j0 j1 => by rw [g99]) (fun s2 μz μy b2 fz ey => ?_) 60 0 1 μ44 (by omega) (by omega) (by omega) rfl (jr_id _)
                                                    exact ⟨jv_one (jb_is_one _ _ _ (fun _ _ _ => Iff.rfl) b2 bμ43), jI_pairW hI fc eμ44 fz ey⟩
                                                · first
                                                  | (exfalso; omega)
                                                  | skip
                                                    refine jv_bipush rfl rfl ?_
                                                    refine jv_goto rfl rfl ?_
                                                    refine jv_istoreK (L2 := [some (.inr (.inr 94)), some (.inl c), some (.inl r), some (.inl a), some (.inl q), some (.inl 0), some (.inl x6_41_3), some (.inl 1), some (.inl 29), none, none]) rfl rfl rfl ?_
                                                    refine jv_iconst rfl rfl ?_
                                                    refine jv_istoreK (L2 := [some (.inr (.inr 94)), some (.inl c), some (.inl r), some (.inl a), some (.inl q), some (.inl 0), some (.inl x6_41_3), some (.inl 1), some (.inl 29), some (.inl 0), none]) rfl rfl rfl ?_
                                                    refine jv_iload rfl rfl rfl ?_
                                                    refine jv_istoreK (L2 := [some (.inr (.inr 94)), some (.inl c), some (.inl r), some (.inl a), some (.inl q), some (.inl 0), some (.inl x6_41_3), some (.inl 1), some (.inl 29), some (.inl 0), some (.inl 1)]) rfl rfl rfl ?_
                                                    exfalso; omega
                                            · first
                                              | (exfalso; omega)
                                              | skip
                                                refine jv_iconst rfl rfl ?_
                                                refine jv_goto rfl rfl ?_
                                                refine jv_istoreK (L2 := [some (.inr (.inr 94)), some (.inl c), some (.inl r), some (.inl a), some (.inl q), some (.inl 0), some (.inl x6_41_3), some (.inl 1), some (.inl 5), none, none]) rfl rfl rfl ?_
                                                refine jv_iconst rfl rfl ?_
                                                refine jv_istoreK (L2 := [some (.inr (.inr 94)), some (.inl c), some (.inl r), some (.inl a), some (.inl q), some (.inl 0), some (.inl x6_41_3), some (.inl 1), some (.inl 5), some (.inl 0), none]) rfl rfl rfl ?_
                                                refine jv_iload rfl rfl rfl ?_
                                                refine jv_istoreK (L2 := [some (.inr (.inr 94)), some (.inl c), some (.inl r), some (.inl a), some (.inl q), some (.inl 0), some (.inl x6_41_3), some (.inl 1), some (.inl 5), some (.inl 0), some (.inl 1)]) rfl rfl rfl ?_
                                                obtain ⟨z1, z2, z3⟩ : pl = 32 ∧ lo = 1 ∧ hi = 5 := by omega
                                                rw [z1, z2, z3] at bμ43
                                                refine mo_fits_l (pl := 32) (lo := 1) (hi := 5) hUμ44 hwf hcf5 (by omega) (by omega) (by omega) (by omega) (by omega) (fun j j0 j1 => by rw [g99]) (fun s2 μz μy b2 fz ey => ?_) 60 0 1 μ44 (by omega) (by omega) (by omega) rfl (jr_id _)
                                                exact ⟨jv_one (jb_is_one _ _ _ (fun _ _ _ => Iff.rfl) b2 bμ43), jI_pairW hI fc eμ44 fz ey⟩
                        · first
                          | (exfalso; omega)
                          | skip
                            show jV _ _ jm_p_X10_fits _ 19 [some (.inr (.inr 94)), some (.inl c), some (.inl r), some (.inl a), some (.inl q), none, none, none, none, none, none] [.inl (-1000012)] ν18_1
                            refine jv_istoreK (L2 := [some (.inr (.inr 94)), some (.inl c), some (.inl r), some (.inl a), some (.inl q), some (.inl (-1000012)), none, none, none, none, none]) rfl rfl rfl ?_
                            refine jv_iload rfl rfl rfl ?_
                            refine jv_if_eqF rfl rfl (by decide) ?_
                            refine jv_iload rfl rfl rfl ?_
                            refine jv_ireturn rfl (Or.inl rfl) ?_
                            exact ⟨jv_one (by omega), by exfalso; omega⟩
                    · first
                      | (exfalso; omega)
                      | skip
                        show jV _ _ jm_p_X10_fits _ 12 [some (.inr (.inr 94)), some (.inl c), some (.inl r), some (.inl a), some (.inl q), none, none, none, none, none, none] [.inl 0] μ44
                        refine jv_if_neF rfl rfl (by decide) ?_
                        refine jv_ldc rfl rfl ?_
                        refine jv_ireturn rfl (Or.inl rfl) ?_
                        exact ⟨jv_one (by omega), by exfalso; omega⟩
                · first
                  | (exfalso; omega)
                  | skip
                    show jV _ _ jm_p_X10_fits _ 6 [some (.inr (.inr 94)), some (.inl c), some (.inl r), some (.inl a), some (.inl q), none, none, none, none, none, none] [.inl 0] μ44
                    refine jv_if_eqT rfl rfl (by decide) ?_
                    refine jv_ldc rfl rfl ?_
                    refine jv_ireturn rfl (Or.inl rfl) ?_
                    exact ⟨jv_one (by omega), by exfalso; omega⟩
            · first
              | (exfalso; omega)
              | skip
                show jV _ _ jm_p_X10_fits _ 3 [some (.inr (.inr 94)), some (.inl c), some (.inl r), some (.inl a), some (.inl q), none, none, none, none, none, none] [.inl 0] μ44
                refine jv_if_eqT rfl rfl (by decide) ?_
                refine jv_ldc rfl rfl ?_
                refine jv_ireturn rfl (Or.inl rfl) ?_
                exact ⟨jv_one (by omega), by exfalso; omega⟩
          · show jV _ _ jm_p_X9_fits _ 18 [some (.inr (.inr 0)), some (.inl c), some (.inl r), some (.inl a), some (.inl q), none] [.inl 2] μ
            refine jv_istoreK (L2 := [some (.inr (.inr 0)), some (.inl c), some (.inl r), some (.inl a), some (.inl q), some (.inl 2)]) rfl rfl rfl ?_
            refine jv_iload rfl rfl rfl ?_
            refine jv_if_eqF rfl rfl (by decide) ?_
            refine jv_aload_n rfl rfl rfl (by decide) ?_
            refine jv_iload rfl rfl rfl ?_
            refine jv_callV1 rfl rfl rfl rfl ⟨by decide, rfl⟩ (Nat.le_of_ble_eq_true rfl) (cl_found (by omega) (fun μ23_1 eμ23_1 => ?_))
            show jV _ _ jm_p_X9_fits _ 24 [some (.inr (.inr 0)), some (.inl c), some (.inl r), some (.inl a), some (.inl q), some (.inl 2)] [.inl (-1000010 - 2)] μ23_1
            refine jv_ireturn rfl (Or.inl rfl) ?_
            refine ⟨_, rfl, ?_⟩
            have g0 : μ23_1 95 = μ 95 := by rw [eμ23_1]; rfl
            have g00 : μ23_1 95 0 = μ 95 0 := by rw [g0]
            have g01 : μ23_1 95 1 = μ 95 1 := by rw [g0]
            have g98 : μ23_1 98 r = μ 98 r := by rw [eμ23_1]; rfl
            have g94 : μ23_1 94 1 = μ 94 1 := by rw [eμ23_1]; rfl
            refine jv_enter (d := 199) jm_p_X10_fits [some (.inr (.inr 94)), some (.inl c), some (.inl r), some (.inl a), some (.inl q), none, none, none, none, none, none] rfl rfl rfl (Nat.le_of_ble_eq_true rfl) rfl rfl ?_
            refine jv_aload_n rfl rfl rfl (by decide) ?_
            refine jv_iload_n rfl rfl rfl ?_
            refine jv_callV1 rfl rfl rfl rfl ⟨by decide, rfl⟩ (Nat.le_of_ble_eq_true rfl) (mo_isComer (by omega) (fun b2 => ?_) (fun b2 => ?_))
            · first
              | (exfalso; omega)
              | skip
                show jV _ _ jm_p_X10_fits _ 3 [some (.inr (.inr 94)), some (.inl c), some (.inl r), some (.inl a), some (.inl q), none, none, none, none, none, none] [.inl 1] μ23_1
                refine jv_if_eqF rfl rfl (by decide) ?_
                refine jv_iload_n rfl rfl rfl ?_
                refine jv_callS1 rfl rfl rfl (Nat.le_of_ble_eq_true rfl) (mo_isRow (fun b5 => ?_) (fun b5 => ?_))
                · first
                  | (exfalso; omega)
                  | skip
                    show jV _ _ jm_p_X10_fits _ 6 [some (.inr (.inr 94)), some (.inl c), some (.inl r), some (.inl a), some (.inl q), none, none, none, none, none, none] [.inl 1] μ23_1
                    refine jv_if_eqF rfl rfl (by decide) ?_
                    refine jv_iload rfl rfl rfl ?_
                    refine jv_i2l rfl rfl ?_
                    refine jv_lconst rfl rfl ?_
                    refine jv_ldc2_w rfl rfl ?_
                    refine jv_callS3 rfl rfl rfl (Nat.le_of_ble_eq_true rfl) (mo_in (fun b11 => ?_) (fun b11 => ?_))
                    · first
                      | (exfalso; omega)
                      | skip
                        show jV _ _ jm_p_X10_fits _ 12 [some (.inr (.inr 94)), some (.inl c), some (.inl r), some (.inl a), some (.inl q), none, none, none, none, none, none] [.inl 1] μ23_1
                        refine jv_if_neT rfl rfl (by decide) ?_
                        refine jv_aload_n rfl rfl rfl (by decide) ?_
                        refine jv_iload_n rfl rfl rfl ?_
                        refine jv_iload_n rfl rfl rfl ?_
                        refine jv_callV2 rfl rfl rfl rfl ⟨by decide, rfl⟩ (Nat.le_of_ble_eq_true rfl) (mo_noItems (by omega) (by omega) (by omega) (by omega) (fun h18_0 ν18 eν18 => ?_) (fun h18_0 h18_1 => ?_) (fun h18_0 h18_1 ν18_1 eν18_1 => ?_))
                        · first
                          | (exfalso; omega)
                          | skip
                            show jV _ _ jm_p_X10_fits _ 19 [some (.inr (.inr 94)), some (.inl c), some (.inl r), some (.inl a), some (.inl q), none, none, none, none, none, none] [.inl (-1000011)] ν18
                            refine jv_istoreK (L2 := [some (.inr (.inr 94)), some (.inl c), some (.inl r), some (.inl a), some (.inl q), some (.inl (-1000011)), none, none, none, none, none]) rfl rfl rfl ?_
                            refine jv_iload rfl rfl rfl ?_
                            refine jv_if_eqF rfl rfl (by decide) ?_
                            refine jv_iload rfl rfl rfl ?_
                            refine jv_ireturn rfl (Or.inl rfl) ?_
                            exact ⟨jv_one (by omega), jI_find hI eμ23_1 eν18⟩
                        · first
                          | (exfalso; omega)
                          | skip
                            show jV _ _ jm_p_X10_fits _ 19 [some (.inr (.inr 94)), some (.inl c), some (.inl r), some (.inl a), some (.inl q), none, none, none, none, none, none] [.inl 0] μ23_1
                            refine jv_istoreK (L2 := [some (.inr (.inr 94)), some (.inl c), some (.inl r), some (.inl a), some (.inl q), some (.inl 0), none, none, none, none, none]) rfl rfl rfl ?_
                            refine jv_iload rfl rfl rfl ?_
                            refine jv_if_eqT rfl rfl (by decide) ?_
                            refine jv_iload rfl rfl rfl ?_
                            refine jv_if_ne rfl rfl rfl (fun c25 => ?_) (fun c25 => ?_)
                            · first
                              | (exfalso; omega)
                              | skip
                                refine jv_iload rfl rfl rfl ?_
                                refine jv_iconst rfl rfl ?_
                                refine jv_icmp_ne rfl rfl rfl (fun c30 => ?_) (fun c30 => ?_)
                                · first
                                  | (exfalso; omega)
                                  | skip
                                    refine jv_iload rfl rfl rfl ?_
                                    refine jv_iconst rfl rfl ?_
                                    refine jv_icmp_ne rfl rfl rfl (fun c35 => ?_) (fun c35 => ?_)
                                    · first
                                      | (exfalso; omega)
                                      | skip
                                        refine jv_bipush rfl rfl ?_
                                        refine jv_iload_n rfl rfl rfl ?_
                                        refine jv_iadd rfl rfl ⟨by omega, by omega⟩ ?_
                                        refine jv_istore (fun x => [some (.inr (.inr 94)), some (.inl c), some (.inl r), some (.inl a), some (.inl q), some (.inl 0), some (.inl x), none, none, none, none]) rfl rfl (fun _ => rfl) (fun x6_41 ex6_41 => ?_)
                                        refine jv_iload rfl rfl rfl ?_
                                        refine jv_if_eq rfl rfl rfl (fun c43 => ?_) (fun c43 => ?_)
                                        · first
                                          | (exfalso; omega)
                                          | skip
                                            refine jv_iconst rfl rfl ?_
                                            refine jv_goto rfl rfl ?_
                                            refine jv_istoreK (L2 := [some (.inr (.inr 94)), some (.inl c), some (.inl r), some (.inl a), some (.inl q), some (.inl 0), some (.inl x6_41), some (.inl 1), none, none, none]) rfl rfl rfl ?_
                                            refine jv_iload rfl rfl rfl ?_
                                            refine jv_if_eq rfl rfl rfl (fun c52 => ?_) (fun c52 => ?_)
                                            · first
                                              | (exfalso; omega)
                                              | skip
                                                refine jv_iconst rfl rfl ?_
                                                refine jv_goto rfl rfl ?_
                                                refine jv_istoreK (L2 := [some (.inr (.inr 94)), some (.inl c), some (.inl r), some (.inl a), some (.inl q), some (.inl 0), some (.inl x6_41), some (.inl 1), some (.inl 5), none, none]) rfl rfl rfl ?_
                                                refine jv_iconst rfl rfl ?_
                                                refine jv_istoreK (L2 := [some (.inr (.inr 94)), some (.inl c), some (.inl r), some (.inl a), some (.inl q), some (.inl 0), some (.inl x6_41), some (.inl 1), some (.inl 5), some (.inl 0), none]) rfl rfl rfl ?_
                                                refine jv_iload rfl rfl rfl ?_
                                                refine jv_istoreK (L2 := [some (.inr (.inr 94)), some (.inl c), some (.inl r), some (.inl a), some (.inl q), some (.inl 0), some (.inl x6_41), some (.inl 1), some (.inl 5), some (.inl 0), some (.inl 1)]) rfl rfl rfl ?_
                                                exfalso; omega
                                            · first
                                              | (exfalso; omega)
                                              | skip
                                                refine jv_iload rfl rfl rfl ?_
                                                refine jv_iconst rfl rfl ?_
                                                refine jv_icmp_ne rfl rfl rfl (fun c55 => ?_) (fun c55 => ?_)
                                                · first
                                                  | (exfalso; omega)
                                                  | skip
                                                    refine jv_iload rfl rfl rfl ?_
                                                    refine jv_iconst rfl rfl ?_
                                                    refine jv_icmp_ne rfl rfl rfl (fun c60 => ?_) (fun c60 => ?_)
                                                    · first
                                                      | (exfalso; omega)
                                                      | skip
                                                        refine jv_bipush rfl rfl ?_
                                                        refine jv_istoreK (L2 := [some (.inr (.inr 94)), some (.inl c), some (.inl r), some (.inl a), some (.inl q), some (.inl 0), some (.inl x6_41), some (.inl 1), some (.inl 9), none, none]) rfl rfl rfl ?_
                                                        refine jv_iconst rfl rfl ?_
                                                        refine jv_istoreK (L2 := [some (.inr (.inr 94)), some (.inl c), some (.inl r), some (.inl a), some (.inl q), some (.inl 0), some (.inl x6_41), some (.inl 1), some (.inl 9), some (.inl 0), none]) rfl rfl rfl ?_
                                                        refine jv_iload rfl rfl rfl ?_
                                                        refine jv_istoreK (L2 := [some (.inr (.inr 94)), some (.inl c), some (.inl r), some (.inl a), some (.inl q), some (.inl 0), some (.inl x6_41), some (.inl 1), some (.inl 9), some (.inl 0), some (.inl 1)]) rfl rfl rfl ?_
                                                        exfalso; omega
                                                    · first
                                                      | (exfalso; omega)
                                                      | skip
                                                        refine jv_bipush rfl rfl ?_
                                                        refine jv_goto rfl rfl ?_
                                                        refine jv_istoreK (L2 := [some (.inr (.inr 94)), some (.inl c), some (.inl r), some (.inl a), some (.inl q), some (.inl 0), some (.inl x6_41), some (.inl 1), some (.inl 29), none, none]) rfl rfl rfl ?_
                                                        refine jv_iconst rfl rfl ?_
                                                        refine jv_istoreK (L2 := [some (.inr (.inr 94)), some (.inl c), some (.inl r), some (.inl a), some (.inl q), some (.inl 0), some (.inl x6_41), some (.inl 1), some (.inl 29), some (.inl 0), none]) rfl rfl rfl ?_
                                                        refine jv_iload rfl rfl rfl ?_
                                                        refine jv_istoreK (L2 := [some (.inr (.inr 94)), some (.inl c), some (.inl r), some (.inl a), some (.inl q), some (.inl 0), some (.inl x6_41), some (.inl 1), some (.inl 29), some (.inl 0), some (.inl 1)]) rfl rfl rfl ?_
                                                        exfalso; omega
                                                · first
                                                  | (exfalso; omega)
                                                  | skip
                                                    refine jv_iconst rfl rfl ?_
                                                    refine jv_goto rfl rfl ?_
                                                    refine jv_istoreK (L2 := [some (.inr (.inr 94)), some (.inl c), some (.inl r), some (.inl a), some (.inl q), some (.inl 0), some (.inl x6_41), some (.inl 1), some (.inl 5), none, none]) rfl rfl rfl ?_
                                                    refine jv_iconst rfl rfl ?_
                                                    refine jv_istoreK (L2 := [some (.inr (.inr 94)), some (.inl c), some (.inl r), some (.inl a), some (.inl q), some (.inl 0), some (.inl x6_41), some (.inl 1), some (.inl 5), some (.inl 0), none]) rfl rfl rfl ?_
                                                    refine jv_iload rfl rfl rfl ?_
                                                    refine jv_istoreK (L2 := [some (.inr (.inr 94)), some (.inl c), some (.inl r), some (.inl a), some (.inl q), some (.inl 0), some (.inl x6_41), some (.inl 1), some (.inl 5), some (.inl 0), some (.inl 1)]) rfl rfl rfl ?_
                                                    exfalso; omega
                                        · first
                                          | (exfalso; omega)
                                          | skip
                                            refine jv_iload rfl rfl rfl ?_
                                            refine jv_iconst rfl rfl ?_
                                            refine jv_icmp_ne rfl rfl rfl (fun c46 => ?_) (fun c46 => ?_)
                                            · first
                                              | (exfalso; omega)
                                              | skip
                                                refine jv_iconst rfl rfl ?_
                                                refine jv_istoreK (L2 := [some (.inr (.inr 94)), some (.inl c), some (.inl r), some (.inl a), some (.inl q), some (.inl 0), some (.inl x6_41), some (.inl 0), none, none, none]) rfl rfl rfl ?_
                                                refine jv_iload rfl rfl rfl ?_
                                                refine jv_if_eq rfl rfl rfl (fun c52_1 => ?_) (fun c52_1 => ?_)
                                                · first
                                                  | (exfalso; omega)
                                                  | skip
                                                    refine jv_iconst rfl rfl ?_
                                                    refine jv_goto rfl rfl ?_
                                                    refine jv_istoreK (L2 := [some (.inr (.inr 94)), some (.inl c), some (.inl r), some (.inl a), some (.inl q), some (.inl 0), some (.inl x6_41), some (.inl 0), some (.inl 5), none, none]) rfl rfl rfl ?_
                                                    refine jv_iconst rfl rfl ?_
                                                    refine jv_istoreK (L2 := [some (.inr (.inr 94)), some (.inl c), some (.inl r), some (.inl a), some (.inl q), some (.inl 0), some (.inl x6_41), some (.inl 0), some (.inl 5), some (.inl 0), none]) rfl rfl rfl ?_
                                                    refine jv_iload rfl rfl rfl ?_
                                                    refine jv_istoreK (L2 := [some (.inr (.inr 94)), some (.inl c), some (.inl r), some (.inl a), some (.inl q), some (.inl 0), some (.inl x6_41), some (.inl 0), some (.inl 5), some (.inl 0), some (.inl 0)]) rfl rfl rfl ?_
                                                    exfalso; omega
                                                · first
                                                  | (exfalso; omega)
                                                  | skip
                                                    refine jv_iload rfl rfl rfl ?_
                                                    refine jv_iconst rfl rfl ?_
                                                    refine jv_icmp_ne rfl rfl rfl (fun c55_1 => ?_) (fun c55_1 => ?_)
                                                    · first
                                                      | (exfalso; omega)
                                                      | skip
                                                        refine jv_iload rfl rfl rfl ?_
                                                        refine jv_iconst rfl rfl ?_
                                                        refine jv_icmp_ne rfl rfl rfl (fun c60_1 => ?_) (fun c60_1 => ?_)
                                                        · first
                                                          | (exfalso; omega)
                                                          | skip
                                                            refine jv_bipush rfl rfl ?_
                                                            refine jv_istoreK (L2 := [some (.inr (.inr 94)), some (.inl c), some (.inl r), some (.inl a), some (.inl q), some (.inl 0), some (.inl x6_41), some (.inl 0), some (.inl 9), none, none]) rfl rfl rfl ?_
                                                            refine jv_iconst rfl rfl ?_
                                                            refine jv_istoreK (L2 := [some (.inr (.inr 94)), some (.inl c), some (.inl r), some (.inl a), some (.inl q), some (.inl 0), some (.inl x6_41), some (.inl 0), some (.inl 9), some (.inl 0), none]) rfl rfl rfl ?_
                                                            refine jv_iload rfl rfl rfl ?_
                                                            refine jv_istoreK (L2 := [some (.inr (.inr 94)), some (.inl c), some (.inl r), some (.inl a), some (.inl q), some (.inl 0), some (.inl x6_41), some (.inl 0), some (.inl 9), some (.inl 0), some (.inl 0)]) rfl rfl rfl ?_
                                                            exfalso; omega
                                                        · first
                                                          | (exfalso; omega)
                                                          | skip
                                                            refine jv_bipush rfl rfl ?_
                                                            refine jv_goto rfl rfl ?_
                                                            refine jv_istoreK (L2 := [some (.inr (.inr 94)), some (.inl c), some (.inl r), some (.inl a), some (.inl q), some (.inl 0), some (.inl x6_41), some (.inl 0), some (.inl 29), none, none]) rfl rfl rfl ?_
                                                            refine jv_iconst rfl rfl ?_
                                                            refine jv_istoreK (L2 := [some (.inr (.inr 94)), some (.inl c), some (.inl r), some (.inl a), some (.inl q), some (.inl 0), some (.inl x6_41), some (.inl 0), some (.inl 29), some (.inl 0), none]) rfl rfl rfl ?_
                                                            refine jv_iload rfl rfl rfl ?_
                                                            refine jv_istoreK (L2 := [some (.inr (.inr 94)), some (.inl c), some (.inl r), some (.inl a), some (.inl q), some (.inl 0), some (.inl x6_41), some (.inl 0), some (.inl 29), some (.inl 0), some (.inl 0)]) rfl rfl rfl ?_
                                                            exfalso; omega
                                                    · first
                                                      | (exfalso; omega)
                                                      | skip
                                                        refine jv_iconst rfl rfl ?_
                                                        refine jv_goto rfl rfl ?_
                                                        refine jv_istoreK (L2 := [some (.inr (.inr 94)), some (.inl c), some (.inl r), some (.inl a), some (.inl q), some (.inl 0), some (.inl x6_41), some (.inl 0), some (.inl 5), none, none]) rfl rfl rfl ?_
                                                        refine jv_iconst rfl rfl ?_
                                                        refine jv_istoreK (L2 := [some (.inr (.inr 94)), some (.inl c), some (.inl r), some (.inl a), some (.inl q), some (.inl 0), some (.inl x6_41), some (.inl 0), some (.inl 5), some (.inl 0), none]) rfl rfl rfl ?_
                                                        refine jv_iload rfl rfl rfl ?_
                                                        refine jv_istoreK (L2 := [some (.inr (.inr 94)), some (.inl c), some (.inl r), some (.inl a), some (.inl q), some (.inl 0), some (.inl x6_41), some (.inl 0), some (.inl 5), some (.inl 0), some (.inl 0)]) rfl rfl rfl ?_
                                                        exfalso; omega
                                            · first
                                              | (exfalso; omega)
                                              | skip
                                                refine jv_iconst rfl rfl ?_
                                                refine jv_goto rfl rfl ?_
                                                refine jv_istoreK (L2 := [some (.inr (.inr 94)), some (.inl c), some (.inl r), some (.inl a), some (.inl q), some (.inl 0), some (.inl x6_41), some (.inl 1), none, none, none]) rfl rfl rfl ?_
                                                refine jv_iload rfl rfl rfl ?_
                                                refine jv_if_eq rfl rfl rfl (fun c52_2 => ?_) (fun c52_2 => ?_)
                                                · first
                                                  | (exfalso; omega)
                                                  | skip
                                                    refine jv_iconst rfl rfl ?_
                                                    refine jv_goto rfl rfl ?_
                                                    refine jv_istoreK (L2 := [some (.inr (.inr 94)), some (.inl c), some (.inl r), some (.inl a), some (.inl q), some (.inl 0), some (.inl x6_41), some (.inl 1), some (.inl 5), none, none]) rfl rfl rfl ?_
                                                    refine jv_iconst rfl rfl ?_
                                                    refine jv_istoreK (L2 := [some (.inr (.inr 94)), some (.inl c), some (.inl r), some (.inl a), some (.inl q), some (.inl 0), some (.inl x6_41), some (.inl 1), some (.inl 5), some (.inl 0), none]) rfl rfl rfl ?_
                                                    refine jv_iload rfl rfl rfl ?_
                                                    refine jv_istoreK (L2 := [some (.inr (.inr 94)), some (.inl c), some (.inl r), some (.inl a), some (.inl q), some (.inl 0), some (.inl x6_41), some (.inl 1), some (.inl 5), some (.inl 0), some (.inl 1)]) rfl rfl rfl ?_
                                                    exfalso; omega
                                                · first
                                                  | (exfalso; omega)
                                                  | skip
                                                    refine jv_iload rfl rfl rfl ?_
                                                    refine jv_iconst rfl rfl ?_
                                                    refine jv_icmp_ne rfl rfl rfl (fun c55_2 => ?_) (fun c55_2 => ?_)
                                                    · first
                                                      | (exfalso; omega)
                                                      | skip
                                                        refine jv_iload rfl rfl rfl ?_
                                                        refine jv_iconst rfl rfl ?_
                                                        refine jv_icmp_ne rfl rfl rfl (fun c60_2 => ?_) (fun c60_2 => ?_)
                                                        · first
                                                          | (exfalso; omega)
                                                          | skip
                                                            refine jv_bipush rfl rfl ?_
                                                            refine jv_istoreK (L2 := [some (.inr (.inr 94)), some (.inl c), some (.inl r), some (.inl a), some (.inl q), some (.inl 0), some (.inl x6_41), some (.inl 1), some (.inl 9), none, none]) rfl rfl rfl ?_
                                                            refine jv_iconst rfl rfl ?_
                                                            refine jv_istoreK (L2 := [some (.inr (.inr 94)), some (.inl c), some (.inl r), some (.inl a), some (.inl q), some (.inl 0), some (.inl x6_41), some (.inl 1), some (.inl 9), some (.inl 0), none]) rfl rfl rfl ?_
                                                            refine jv_iload rfl rfl rfl ?_
                                                            refine jv_istoreK (L2 := [some (.inr (.inr 94)), some (.inl c), some (.inl r), some (.inl a), some (.inl q), some (.inl 0), some (.inl x6_41), some (.inl 1), some (.inl 9), some (.inl 0), some (.inl 1)]) rfl rfl rfl ?_
                                                            exfalso; omega
                                                        · first
                                                          | (exfalso; omega)
                                                          | skip
                                                            refine jv_bipush rfl rfl ?_
                                                            refine jv_goto rfl rfl ?_
                                                            refine jv_istoreK (L2 := [some (.inr (.inr 94)), some (.inl c), some (.inl r), some (.inl a), some (.inl q), some (.inl 0), some (.inl x6_41), some (.inl 1), some (.inl 29), none, none]) rfl rfl rfl ?_
                                                            refine jv_iconst rfl rfl ?_
                                                            refine jv_istoreK (L2 := [some (.inr (.inr 94)), some (.inl c), some (.inl r), some (.inl a), some (.inl q), some (.inl 0), some (.inl x6_41), some (.inl 1), some (.inl 29), some (.inl 0), none]) rfl rfl rfl ?_
                                                            refine jv_iload rfl rfl rfl ?_
                                                            refine jv_istoreK (L2 := [some (.inr (.inr 94)), some (.inl c), some (.inl r), some (.inl a), some (.inl q), some (.inl 0), some (.inl x6_41), some (.inl 1), some (.inl 29), some (.inl 0), some (.inl 1)]) rfl rfl rfl ?_
                                                            exfalso; omega
                                                    · first
                                                      | (exfalso; omega)
                                                      | skip
                                                        refine jv_iconst rfl rfl ?_
                                                        refine jv_goto rfl rfl ?_
                                                        refine jv_istoreK (L2 := [some (.inr (.inr 94)), some (.inl c), some (.inl r), some (.inl a), some (.inl q), some (.inl 0), some (.inl x6_41), some (.inl 1), some (.inl 5), none, none]) rfl rfl rfl ?_
                                                        refine jv_iconst rfl rfl ?_
                                                        refine jv_istoreK (L2 := [some (.inr (.inr 94)), some (.inl c), some (.inl r), some (.inl a), some (.inl q), some (.inl 0), some (.inl x6_41), some (.inl 1), some (.inl 5), some (.inl 0), none]) rfl rfl rfl ?_
                                                        refine jv_iload rfl rfl rfl ?_
                                                        refine jv_istoreK (L2 := [some (.inr (.inr 94)), some (.inl c), some (.inl r), some (.inl a), some (.inl q), some (.inl 0), some (.inl x6_41), some (.inl 1), some (.inl 5), some (.inl 0), some (.inl 1)]) rfl rfl rfl ?_
                                                        exfalso; omega
                                    · first
                                      | (exfalso; omega)
                                      | skip
                                        refine jv_bipush rfl rfl ?_
                                        refine jv_goto rfl rfl ?_
                                        refine jv_iload_n rfl rfl rfl ?_
                                        refine jv_iadd rfl rfl ⟨by omega, by omega⟩ ?_
                                        refine jv_istore (fun x => [some (.inr (.inr 94)), some (.inl c), some (.inl r), some (.inl a), some (.inl q), some (.inl 0), some (.inl x), none, none, none, none]) rfl rfl (fun _ => rfl) (fun x6_41_1 ex6_41_1 => ?_)
                                        refine jv_iload rfl rfl rfl ?_
                                        refine jv_if_eq rfl rfl rfl (fun c43_1 => ?_) (fun c43_1 => ?_)
                                        · first
                                          | (exfalso; omega)
                                          | skip
                                            refine jv_iconst rfl rfl ?_
                                            refine jv_goto rfl rfl ?_
                                            refine jv_istoreK (L2 := [some (.inr (.inr 94)), some (.inl c), some (.inl r), some (.inl a), some (.inl q), some (.inl 0), some (.inl x6_41_1), some (.inl 1), none, none, none]) rfl rfl rfl ?_
                                            refine jv_iload rfl rfl rfl ?_
                                            refine jv_if_eq rfl rfl rfl (fun c52_3 => ?_) (fun c52_3 => ?_)
                                            · first
                                              | (exfalso; omega)
                                              | skip
                                                refine jv_iconst rfl rfl ?_
                                                refine jv_goto rfl rfl ?_
                                                refine jv_istoreK (L2 := [some (.inr (.inr 94)), some (.inl c), some (.inl r), some (.inl a), some (.inl q), some (.inl 0), some (.inl x6_41_1), some (.inl 1), some (.inl 5), none, none]) rfl rfl rfl ?_
                                                refine jv_iconst rfl rfl ?_
                                                refine jv_istoreK (L2 := [some (.inr (.inr 94)), some (.inl c), some (.inl r), some (.inl a), some (.inl q), some (.inl 0), some (.inl x6_41_1), some (.inl 1), some (.inl 5), some (.inl 0), none]) rfl rfl rfl ?_
                                                refine jv_iload rfl rfl rfl ?_
                                                refine jv_istoreK (L2 := [some (.inr (.inr 94)), some (.inl c), some (.inl r), some (.inl a), some (.inl q), some (.inl 0), some (.inl x6_41_1), some (.inl 1), some (.inl 5), some (.inl 0), some (.inl 1)]) rfl rfl rfl ?_
                                                exfalso; omega
                                            · first
                                              | (exfalso; omega)
                                              | skip
                                                refine jv_iload rfl rfl rfl ?_
                                                refine jv_iconst rfl rfl ?_
                                                refine jv_icmp_ne rfl rfl rfl (fun c55_3 => ?_) (fun c55_3 => ?_)
                                                · first
                                                  | (exfalso; omega)
                                                  | skip
                                                    refine jv_iload rfl rfl rfl ?_
                                                    refine jv_iconst rfl rfl ?_
                                                    refine jv_icmp_ne rfl rfl rfl (fun c60_3 => ?_) (fun c60_3 => ?_)
                                                    · first
                                                      | (exfalso; omega)
                                                      | skip
                                                        refine jv_bipush rfl rfl ?_
                                                        refine jv_istoreK (L2 := [some (.inr (.inr 94)), some (.inl c), some (.inl r), some (.inl a), some (.inl q), some (.inl 0), some (.inl x6_41_1), some (.inl 1), some (.inl 9), none, none]) rfl rfl rfl ?_
                                                        refine jv_iconst rfl rfl ?_
                                                        refine jv_istoreK (L2 := [some (.inr (.inr 94)), some (.inl c), some (.inl r), some (.inl a), some (.inl q), some (.inl 0), some (.inl x6_41_1), some (.inl 1), some (.inl 9), some (.inl 0), none]) rfl rfl rfl ?_
                                                        refine jv_iload rfl rfl rfl ?_
                                                        refine jv_istoreK (L2 := [some (.inr (.inr 94)), some (.inl c), some (.inl r), some (.inl a), some (.inl q), some (.inl 0), some (.inl x6_41_1), some (.inl 1), some (.inl 9), some (.inl 0), some (.inl 1)]) rfl rfl rfl ?_
                                                        exfalso; omega
                                                    · first
                                                      | (exfalso; omega)
                                                      | skip
                                                        refine jv_bipush rfl rfl ?_
                                                        refine jv_goto rfl rfl ?_
                                                        refine jv_istoreK (L2 := [some (.inr (.inr 94)), some (.inl c), some (.inl r), some (.inl a), some (.inl q), some (.inl 0), some (.inl x6_41_1), some (.inl 1), some (.inl 29), none, none]) rfl rfl rfl ?_
                                                        refine jv_iconst rfl rfl ?_
                                                        refine jv_istoreK (L2 := [some (.inr (.inr 94)), some (.inl c), some (.inl r), some (.inl a), some (.inl q), some (.inl 0), some (.inl x6_41_1), some (.inl 1), some (.inl 29), some (.inl 0), none]) rfl rfl rfl ?_
                                                        refine jv_iload rfl rfl rfl ?_
                                                        refine jv_istoreK (L2 := [some (.inr (.inr 94)), some (.inl c), some (.inl r), some (.inl a), some (.inl q), some (.inl 0), some (.inl x6_41_1), some (.inl 1), some (.inl 29), some (.inl 0), some (.inl 1)]) rfl rfl rfl ?_
                                                        exfalso; omega
                                                · first
                                                  | (exfalso; omega)
                                                  | skip
                                                    refine jv_iconst rfl rfl ?_
                                                    refine jv_goto rfl rfl ?_
                                                    refine jv_istoreK (L2 := [some (.inr (.inr 94)), some (.inl c), some (.inl r), some (.inl a), some (.inl q), some (.inl 0), some (.inl x6_41_1), some (.inl 1), some (.inl 5), none, none]) rfl rfl rfl ?_
                                                    refine jv_iconst rfl rfl ?_
                                                    refine jv_istoreK (L2 := [some (.inr (.inr 94)), some (.inl c), some (.inl r), some (.inl a), some (.inl q), some (.inl 0), some (.inl x6_41_1), some (.inl 1), some (.inl 5), some (.inl 0), none]) rfl rfl rfl ?_
                                                    refine jv_iload rfl rfl rfl ?_
                                                    refine jv_istoreK (L2 := [some (.inr (.inr 94)), some (.inl c), some (.inl r), some (.inl a), some (.inl q), some (.inl 0), some (.inl x6_41_1), some (.inl 1), some (.inl 5), some (.inl 0), some (.inl 1)]) rfl rfl rfl ?_
                                                    exfalso; omega
                                        · first
                                          | (exfalso; omega)
                                          | skip
                                            refine jv_iload rfl rfl rfl ?_
                                            refine jv_iconst rfl rfl ?_
                                            refine jv_icmp_ne rfl rfl rfl (fun c46_1 => ?_) (fun c46_1 => ?_)
                                            · first
                                              | (exfalso; omega)
                                              | skip
                                                refine jv_iconst rfl rfl ?_
                                                refine jv_istoreK (L2 := [some (.inr (.inr 94)), some (.inl c), some (.inl r), some (.inl a), some (.inl q), some (.inl 0), some (.inl x6_41_1), some (.inl 0), none, none, none]) rfl rfl rfl ?_
                                                refine jv_iload rfl rfl rfl ?_
                                                refine jv_if_eq rfl rfl rfl (fun c52_4 => ?_) (fun c52_4 => ?_)
                                                · first
                                                  | (exfalso; omega)
                                                  | skip
                                                    refine jv_iconst rfl rfl ?_
                                                    refine jv_goto rfl rfl ?_
                                                    refine jv_istoreK (L2 := [some (.inr (.inr 94)), some (.inl c), some (.inl r), some (.inl a), some (.inl q), some (.inl 0), some (.inl x6_41_1), some (.inl 0), some (.inl 5), none, none]) rfl rfl rfl ?_
                                                    refine jv_iconst rfl rfl ?_
                                                    refine jv_istoreK (L2 := [some (.inr (.inr 94)), some (.inl c), some (.inl r), some (.inl a), some (.inl q), some (.inl 0), some (.inl x6_41_1), some (.inl 0), some (.inl 5), some (.inl 0), none]) rfl rfl rfl ?_
                                                    refine jv_iload rfl rfl rfl ?_
                                                    refine jv_istoreK (L2 := [some (.inr (.inr 94)), some (.inl c), some (.inl r), some (.inl a), some (.inl q), some (.inl 0), some (.inl x6_41_1), some (.inl 0), some (.inl 5), some (.inl 0), some (.inl 0)]) rfl rfl rfl ?_
                                                    exfalso; omega
                                                · first
                                                  | (exfalso; omega)
                                                  | skip
                                                    refine jv_iload rfl rfl rfl ?_
                                                    refine jv_iconst rfl rfl ?_
                                                    refine jv_icmp_ne rfl rfl rfl (fun c55_4 => ?_) (fun c55_4 => ?_)
                                                    · first
                                                      | (exfalso; omega)
                                                      | skip
                                                        refine jv_iload rfl rfl rfl ?_
                                                        refine jv_iconst rfl rfl ?_
                                                        refine jv_icmp_ne rfl rfl rfl (fun c60_4 => ?_) (fun c60_4 => ?_)
                                                        · first
                                                          | (exfalso; omega)
                                                          | skip
                                                            refine jv_bipush rfl rfl ?_
                                                            refine jv_istoreK (L2 := [some (.inr (.inr 94)), some (.inl c), some (.inl r), some (.inl a), some (.inl q), some (.inl 0), some (.inl x6_41_1), some (.inl 0), some (.inl 9), none, none]) rfl rfl rfl ?_
                                                            refine jv_iconst rfl rfl ?_
                                                            refine jv_istoreK (L2 := [some (.inr (.inr 94)), some (.inl c), some (.inl r), some (.inl a), some (.inl q), some (.inl 0), some (.inl x6_41_1), some (.inl 0), some (.inl 9), some (.inl 0), none]) rfl rfl rfl ?_
                                                            refine jv_iload rfl rfl rfl ?_
                                                            refine jv_istoreK (L2 := [some (.inr (.inr 94)), some (.inl c), some (.inl r), some (.inl a), some (.inl q), some (.inl 0), some (.inl x6_41_1), some (.inl 0), some (.inl 9), some (.inl 0), some (.inl 0)]) rfl rfl rfl ?_
                                                            exfalso; omega
                                                        · first
                                                          | (exfalso; omega)
                                                          | skip
                                                            refine jv_bipush rfl rfl ?_
                                                            refine jv_goto rfl rfl ?_
                                                            refine jv_istoreK (L2 := [some (.inr (.inr 94)), some (.inl c), some (.inl r), some (.inl a), some (.inl q), some (.inl 0), some (.inl x6_41_1), some (.inl 0), some (.inl 29), none, none]) rfl rfl rfl ?_
                                                            refine jv_iconst rfl rfl ?_
                                                            refine jv_istoreK (L2 := [some (.inr (.inr 94)), some (.inl c), some (.inl r), some (.inl a), some (.inl q), some (.inl 0), some (.inl x6_41_1), some (.inl 0), some (.inl 29), some (.inl 0), none]) rfl rfl rfl ?_
                                                            refine jv_iload rfl rfl rfl ?_
                                                            refine jv_istoreK (L2 := [some (.inr (.inr 94)), some (.inl c), some (.inl r), some (.inl a), some (.inl q), some (.inl 0), some (.inl x6_41_1), some (.inl 0), some (.inl 29), some (.inl 0), some (.inl 0)]) rfl rfl rfl ?_
                                                            exfalso; omega
                                                    · first
                                                      | (exfalso; omega)
                                                      | skip
                                                        refine jv_iconst rfl rfl ?_
                                                        refine jv_goto rfl rfl ?_
                                                        refine jv_istoreK (L2 := [some (.inr (.inr 94)), some (.inl c), some (.inl r), some (.inl a), some (.inl q), some (.inl 0), some (.inl x6_41_1), some (.inl 0), some (.inl 5), none, none]) rfl rfl rfl ?_
                                                        refine jv_iconst rfl rfl ?_
                                                        refine jv_istoreK (L2 := [some (.inr (.inr 94)), some (.inl c), some (.inl r), some (.inl a), some (.inl q), some (.inl 0), some (.inl x6_41_1), some (.inl 0), some (.inl 5), some (.inl 0), none]) rfl rfl rfl ?_
                                                        refine jv_iload rfl rfl rfl ?_
                                                        refine jv_istoreK (L2 := [some (.inr (.inr 94)), some (.inl c), some (.inl r), some (.inl a), some (.inl q), some (.inl 0), some (.inl x6_41_1), some (.inl 0), some (.inl 5), some (.inl 0), some (.inl 0)]) rfl rfl rfl ?_
                                                        exfalso; omega
                                            · first
                                              | (exfalso; omega)
                                              | skip
                                                refine jv_iconst rfl rfl ?_
                                                refine jv_goto rfl rfl ?_
                                                refine jv_istoreK (L2 := [some (.inr (.inr 94)), some (.inl c), some (.inl r), some (.inl a), some (.inl q), some (.inl 0), some (.inl x6_41_1), some (.inl 1), none, none, none]) rfl rfl rfl ?_
                                                refine jv_iload rfl rfl rfl ?_
                                                refine jv_if_eq rfl rfl rfl (fun c52_5 => ?_) (fun c52_5 => ?_)
                                                · first
                                                  | (exfalso; omega)
                                                  | skip
                                                    refine jv_iconst rfl rfl ?_
                                                    refine jv_goto rfl rfl ?_
                                                    refine jv_istoreK (L2 := [some (.inr (.inr 94)), some (.inl c), some (.inl r), some (.inl a), some (.inl q), some (.inl 0), some (.inl x6_41_1), some (.inl 1), some (.inl 5), none, none]) rfl rfl rfl ?_
                                                    refine jv_iconst rfl rfl ?_
                                                    refine jv_istoreK (L2 := [some (.inr (.inr 94)), some (.inl c), some (.inl r), some (.inl a), some (.inl q), some (.inl 0), some (.inl x6_41_1), some (.inl 1), some (.inl 5), some (.inl 0), none]) rfl rfl rfl ?_
                                                    refine jv_iload rfl rfl rfl ?_
                                                    refine jv_istoreK (L2 := [some (.inr (.inr 94)), some (.inl c), some (.inl r), some (.inl a), some (.inl q), some (.inl 0), some (.inl x6_41_1), some (.inl 1), some (.inl 5), some (.inl 0), some (.inl 1)]) rfl rfl rfl ?_
                                                    exfalso; omega
                                                · first
                                                  | (exfalso; omega)
                                                  | skip
                                                    refine jv_iload rfl rfl rfl ?_
                                                    refine jv_iconst rfl rfl ?_
                                                    refine jv_icmp_ne rfl rfl rfl (fun c55_5 => ?_) (fun c55_5 => ?_)
                                                    · first
                                                      | (exfalso; omega)
                                                      | skip
                                                        refine jv_iload rfl rfl rfl ?_
                                                        refine jv_iconst rfl rfl ?_
                                                        refine jv_icmp_ne rfl rfl rfl (fun c60_5 => ?_) (fun c60_5 => ?_)
                                                        · first
                                                          | (exfalso; omega)
                                                          | skip
                                                            refine jv_bipush rfl rfl ?_
                                                            refine jv_istoreK (L2 := [some (.inr (.inr 94)), some (.inl c), some (.inl r), some (.inl a), some (.inl q), some (.inl 0), some (.inl x6_41_1), some (.inl 1), some (.inl 9), none, none]) rfl rfl rfl ?_
                                                            refine jv_iconst rfl rfl ?_
                                                            refine jv_istoreK (L2 := [some (.inr (.inr 94)), some (.inl c), some (.inl r), some (.inl a), some (.inl q), some (.inl 0), some (.inl x6_41_1), some (.inl 1), some (.inl 9), some (.inl 0), none]) rfl rfl rfl ?_
                                                            refine jv_iload rfl rfl rfl ?_
                                                            refine jv_istoreK (L2 := [some (.inr (.inr 94)), some (.inl c), some (.inl r), some (.inl a), some (.inl q), some (.inl 0), some (.inl x6_41_1), some (.inl 1), some (.inl 9), some (.inl 0), some (.inl 1)]) rfl rfl rfl ?_
                                                            exfalso; omega
                                                        · first
                                                          | (exfalso; omega)
                                                          | skip
                                                            refine jv_bipush rfl rfl ?_
                                                            refine jv_goto rfl rfl ?_
                                                            refine jv_istoreK (L2 := [some (.inr (.inr 94)), some (.inl c), some (.inl r), some (.inl a), some (.inl q), some (.inl 0), some (.inl x6_41_1), some (.inl 1), some (.inl 29), none, none]) rfl rfl rfl ?_
                                                            refine jv_iconst rfl rfl ?_
                                                            refine jv_istoreK (L2 := [some (.inr (.inr 94)), some (.inl c), some (.inl r), some (.inl a), some (.inl q), some (.inl 0), some (.inl x6_41_1), some (.inl 1), some (.inl 29), some (.inl 0), none]) rfl rfl rfl ?_
                                                            refine jv_iload rfl rfl rfl ?_
                                                            refine jv_istoreK (L2 := [some (.inr (.inr 94)), some (.inl c), some (.inl r), some (.inl a), some (.inl q), some (.inl 0), some (.inl x6_41_1), some (.inl 1), some (.inl 29), some (.inl 0), some (.inl 1)]) rfl rfl rfl ?_
                                                            exfalso; omega
                                                    · first
                                                      | (exfalso; omega)
                                                      | skip
                                                        refine jv_iconst rfl rfl ?_
                                                        refine jv_goto rfl rfl ?_
                                                        refine jv_istoreK (L2 := [some (.inr (.inr 94)), some (.inl c), some (.inl r), some (.inl a), some (.inl q), some (.inl 0), some (.inl x6_41_1), some (.inl 1), some (.inl 5), none, none]) rfl rfl rfl ?_
                                                        refine jv_iconst rfl rfl ?_
                                                        refine jv_istoreK (L2 := [some (.inr (.inr 94)), some (.inl c), some (.inl r), some (.inl a), some (.inl q), some (.inl 0), some (.inl x6_41_1), some (.inl 1), some (.inl 5), some (.inl 0), none]) rfl rfl rfl ?_
                                                        refine jv_iload rfl rfl rfl ?_
                                                        refine jv_istoreK (L2 := [some (.inr (.inr 94)), some (.inl c), some (.inl r), some (.inl a), some (.inl q), some (.inl 0), some (.inl x6_41_1), some (.inl 1), some (.inl 5), some (.inl 0), some (.inl 1)]) rfl rfl rfl ?_
                                                        exfalso; omega
                                · first
                                  | (exfalso; omega)
                                  | skip
                                    refine jv_bipush rfl rfl ?_
                                    refine jv_goto rfl rfl ?_
                                    refine jv_iload_n rfl rfl rfl ?_
                                    refine jv_iadd rfl rfl ⟨by omega, by omega⟩ ?_
                                    refine jv_istore (fun x => [some (.inr (.inr 94)), some (.inl c), some (.inl r), some (.inl a), some (.inl q), some (.inl 0), some (.inl x), none, none, none, none]) rfl rfl (fun _ => rfl) (fun x6_41_2 ex6_41_2 => ?_)
                                    refine jv_iload rfl rfl rfl ?_
                                    refine jv_if_eq rfl rfl rfl (fun c43_2 => ?_) (fun c43_2 => ?_)
                                    · first
                                      | (exfalso; omega)
                                      | skip
                                        refine jv_iconst rfl rfl ?_
                                        refine jv_goto rfl rfl ?_
                                        refine jv_istoreK (L2 := [some (.inr (.inr 94)), some (.inl c), some (.inl r), some (.inl a), some (.inl q), some (.inl 0), some (.inl x6_41_2), some (.inl 1), none, none, none]) rfl rfl rfl ?_
                                        refine jv_iload rfl rfl rfl ?_
                                        refine jv_if_eq rfl rfl rfl (fun c52_6 => ?_) (fun c52_6 => ?_)
                                        · first
                                          | (exfalso; omega)
                                          | skip
                                            refine jv_iconst rfl rfl ?_
                                            refine jv_goto rfl rfl ?_
                                            refine jv_istoreK (L2 := [some (.inr (.inr 94)), some (.inl c), some (.inl r), some (.inl a), some (.inl q), some (.inl 0), some (.inl x6_41_2), some (.inl 1), some (.inl 5), none, none]) rfl rfl rfl ?_
                                            refine jv_iconst rfl rfl ?_
                                            refine jv_istoreK (L2 := [some (.inr (.inr 94)), some (.inl c), some (.inl r), some (.inl a), some (.inl q), some (.inl 0), some (.inl x6_41_2), some (.inl 1), some (.inl 5), some (.inl 0), none]) rfl rfl rfl ?_
                                            refine jv_iload rfl rfl rfl ?_
                                            refine jv_istoreK (L2 := [some (.inr (.inr 94)), some (.inl c), some (.inl r), some (.inl a), some (.inl q), some (.inl 0), some (.inl x6_41_2), some (.inl 1), some (.inl 5), some (.inl 0), some (.inl 1)]) rfl rfl rfl ?_
                                            exfalso; omega
                                        · first
                                          | (exfalso; omega)
                                          | skip
                                            refine jv_iload rfl rfl rfl ?_
                                            refine jv_iconst rfl rfl ?_
                                            refine jv_icmp_ne rfl rfl rfl (fun c55_6 => ?_) (fun c55_6 => ?_)
                                            · first
                                              | (exfalso; omega)
                                              | skip
                                                refine jv_iload rfl rfl rfl ?_
                                                refine jv_iconst rfl rfl ?_
                                                refine jv_icmp_ne rfl rfl rfl (fun c60_6 => ?_) (fun c60_6 => ?_)
                                                · first
                                                  | (exfalso; omega)
                                                  | skip
                                                    refine jv_bipush rfl rfl ?_
                                                    refine jv_istoreK (L2 := [some (.inr (.inr 94)), some (.inl c), some (.inl r), some (.inl a), some (.inl q), some (.inl 0), some (.inl x6_41_2), some (.inl 1), some (.inl 9), none, none]) rfl rfl rfl ?_
                                                    refine jv_iconst rfl rfl ?_
                                                    refine jv_istoreK (L2 := [some (.inr (.inr 94)), some (.inl c), some (.inl r), some (.inl a), some (.inl q), some (.inl 0), some (.inl x6_41_2), some (.inl 1), some (.inl 9), some (.inl 0), none]) rfl rfl rfl ?_
                                                    refine jv_iload rfl rfl rfl ?_
                                                    refine jv_istoreK (L2 := [some (.inr (.inr 94)), some (.inl c), some (.inl r), some (.inl a), some (.inl q), some (.inl 0), some (.inl x6_41_2), some (.inl 1), some (.inl 9), some (.inl 0), some (.inl 1)]) rfl rfl rfl ?_
                                                    exfalso; omega
                                                · first
                                                  | (exfalso; omega)
                                                  | skip
                                                    refine jv_bipush rfl rfl ?_
                                                    refine jv_goto rfl rfl ?_
                                                    refine jv_istoreK (L2 := [some (.inr (.inr 94)), some (.inl c), some (.inl r), some (.inl a), some (.inl q), some (.inl 0), some (.inl x6_41_2), some (.inl 1), some (.inl 29), none, none]) rfl rfl rfl ?_
                                                    refine jv_iconst rfl rfl ?_
                                                    refine jv_istoreK (L2 := [some (.inr (.inr 94)), some (.inl c), some (.inl r), some (.inl a), some (.inl q), some (.inl 0), some (.inl x6_41_2), some (.inl 1), some (.inl 29), some (.inl 0), none]) rfl rfl rfl ?_
                                                    refine jv_iload rfl rfl rfl ?_
                                                    refine jv_istoreK (L2 := [some (.inr (.inr 94)), some (.inl c), some (.inl r), some (.inl a), some (.inl q), some (.inl 0), some (.inl x6_41_2), some (.inl 1), some (.inl 29), some (.inl 0), some (.inl 1)]) rfl rfl rfl ?_
                                                    exfalso; omega
                                            · first
                                              | (exfalso; omega)
                                              | skip
                                                refine jv_iconst rfl rfl ?_
                                                refine jv_goto rfl rfl ?_
                                                refine jv_istoreK (L2 := [some (.inr (.inr 94)), some (.inl c), some (.inl r), some (.inl a), some (.inl q), some (.inl 0), some (.inl x6_41_2), some (.inl 1), some (.inl 5), none, none]) rfl rfl rfl ?_
                                                refine jv_iconst rfl rfl ?_
                                                refine jv_istoreK (L2 := [some (.inr (.inr 94)), some (.inl c), some (.inl r), some (.inl a), some (.inl q), some (.inl 0), some (.inl x6_41_2), some (.inl 1), some (.inl 5), some (.inl 0), none]) rfl rfl rfl ?_
                                                refine jv_iload rfl rfl rfl ?_
                                                refine jv_istoreK (L2 := [some (.inr (.inr 94)), some (.inl c), some (.inl r), some (.inl a), some (.inl q), some (.inl 0), some (.inl x6_41_2), some (.inl 1), some (.inl 5), some (.inl 0), some (.inl 1)]) rfl rfl rfl ?_
                                                exfalso; omega
                                    · first
                                      | (exfalso; omega)
                                      | skip
                                        refine jv_iload rfl rfl rfl ?_
                                        refine jv_iconst rfl rfl ?_
                                        refine jv_icmp_ne rfl rfl rfl (fun c46_2 => ?_) (fun c46_2 => ?_)
                                        · first
                                          | (exfalso; omega)
                                          | skip
                                            refine jv_iconst rfl rfl ?_
                                            refine jv_istoreK (L2 := [some (.inr (.inr 94)), some (.inl c), some (.inl r), some (.inl a), some (.inl q), some (.inl 0), some (.inl x6_41_2), some (.inl 0), none, none, none]) rfl rfl rfl ?_
                                            refine jv_iload rfl rfl rfl ?_
                                            refine jv_if_eq rfl rfl rfl (fun c52_7 => ?_) (fun c52_7 => ?_)
                                            · first
                                              | (exfalso; omega)
                                              | skip
                                                refine jv_iconst rfl rfl ?_
                                                refine jv_goto rfl rfl ?_
                                                refine jv_istoreK (L2 := [some (.inr (.inr 94)), some (.inl c), some (.inl r), some (.inl a), some (.inl q), some (.inl 0), some (.inl x6_41_2), some (.inl 0), some (.inl 5), none, none]) rfl rfl rfl ?_
                                                refine jv_iconst rfl rfl ?_
                                                refine jv_istoreK (L2 := [some (.inr (.inr 94)), some (.inl c), some (.inl r), some (.inl a), some (.inl q), some (.inl 0), some (.inl x6_41_2), some (.inl 0), some (.inl 5), some (.inl 0), none]) rfl rfl rfl ?_
                                                refine jv_iload rfl rfl rfl ?_
                                                refine jv_istoreK (L2 := [some (.inr (.inr 94)), some (.inl c), some (.inl r), some (.inl a), some (.inl q), some (.inl 0), some (.inl x6_41_2), some (.inl 0), some (.inl 5), some (.inl 0), some (.inl 0)]) rfl rfl rfl ?_
                                                exfalso; omega
                                            · first
                                              | (exfalso; omega)
                                              | skip
                                                refine jv_iload rfl rfl rfl ?_
                                                refine jv_iconst rfl rfl ?_
                                                refine jv_icmp_ne rfl rfl rfl (fun c55_7 => ?_) (fun c55_7 => ?_)
                                                · first
                                                  | (exfalso; omega)
                                                  | skip
                                                    refine jv_iload rfl rfl rfl ?_
                                                    refine jv_iconst rfl rfl ?_
                                                    refine jv_icmp_ne rfl rfl rfl (fun c60_7 => ?_) (fun c60_7 => ?_)
                                                    · first
                                                      | (exfalso; omega)
                                                      | skip
                                                        refine jv_bipush rfl rfl ?_
                                                        refine jv_istoreK (L2 := [some (.inr (.inr 94)), some (.inl c), some (.inl r), some (.inl a), some (.inl q), some (.inl 0), some (.inl x6_41_2), some (.inl 0), some (.inl 9), none, none]) rfl rfl rfl ?_
                                                        refine jv_iconst rfl rfl ?_
                                                        refine jv_istoreK (L2 := [some (.inr (.inr 94)), some (.inl c), some (.inl r), some (.inl a), some (.inl q), some (.inl 0), some (.inl x6_41_2), some (.inl 0), some (.inl 9), some (.inl 0), none]) rfl rfl rfl ?_
                                                        refine jv_iload rfl rfl rfl ?_
                                                        refine jv_istoreK (L2 := [some (.inr (.inr 94)), some (.inl c), some (.inl r), some (.inl a), some (.inl q), some (.inl 0), some (.inl x6_41_2), some (.inl 0), some (.inl 9), some (.inl 0), some (.inl 0)]) rfl rfl rfl ?_
                                                        exfalso; omega
                                                    · first
                                                      | (exfalso; omega)
                                                      | skip
                                                        refine jv_bipush rfl rfl ?_
                                                        refine jv_goto rfl rfl ?_
                                                        refine jv_istoreK (L2 := [some (.inr (.inr 94)), some (.inl c), some (.inl r), some (.inl a), some (.inl q), some (.inl 0), some (.inl x6_41_2), some (.inl 0), some (.inl 29), none, none]) rfl rfl rfl ?_
                                                        refine jv_iconst rfl rfl ?_
                                                        refine jv_istoreK (L2 := [some (.inr (.inr 94)), some (.inl c), some (.inl r), some (.inl a), some (.inl q), some (.inl 0), some (.inl x6_41_2), some (.inl 0), some (.inl 29), some (.inl 0), none]) rfl rfl rfl ?_
                                                        refine jv_iload rfl rfl rfl ?_
                                                        refine jv_istoreK (L2 := [some (.inr (.inr 94)), some (.inl c), some (.inl r), some (.inl a), some (.inl q), some (.inl 0), some (.inl x6_41_2), some (.inl 0), some (.inl 29), some (.inl 0), some (.inl 0)]) rfl rfl rfl ?_
                                                        exfalso; omega
                                                · first
                                                  | (exfalso; omega)
                                                  | skip
                                                    refine jv_iconst rfl rfl ?_
                                                    refine jv_goto rfl rfl ?_
                                                    refine jv_istoreK (L2 := [some (.inr (.inr 94)), some (.inl c), some (.inl r), some (.inl a), some (.inl q), some (.inl 0), some (.inl x6_41_2), some (.inl 0), some (.inl 5), none, none]) rfl rfl rfl ?_
                                                    refine jv_iconst rfl rfl ?_
                                                    refine jv_istoreK (L2 := [some (.inr (.inr 94)), some (.inl c), some (.inl r), some (.inl a), some (.inl q), some (.inl 0), some (.inl x6_41_2), some (.inl 0), some (.inl 5), some (.inl 0), none]) rfl rfl rfl ?_
                                                    refine jv_iload rfl rfl rfl ?_
                                                    refine jv_istoreK (L2 := [some (.inr (.inr 94)), some (.inl c), some (.inl r), some (.inl a), some (.inl q), some (.inl 0), some (.inl x6_41_2), some (.inl 0), some (.inl 5), some (.inl 0), some (.inl 0)]) rfl rfl rfl ?_
                                                    exfalso; omega
                                        · first
                                          | (exfalso; omega)
                                          | skip
                                            refine jv_iconst rfl rfl ?_
                                            refine jv_goto rfl rfl ?_
                                            refine jv_istoreK (L2 := [some (.inr (.inr 94)), some (.inl c), some (.inl r), some (.inl a), some (.inl q), some (.inl 0), some (.inl x6_41_2), some (.inl 1), none, none, none]) rfl rfl rfl ?_
                                            refine jv_iload rfl rfl rfl ?_
                                            refine jv_if_eq rfl rfl rfl (fun c52_8 => ?_) (fun c52_8 => ?_)
                                            · first
                                              | (exfalso; omega)
                                              | skip
                                                refine jv_iconst rfl rfl ?_
                                                refine jv_goto rfl rfl ?_
                                                refine jv_istoreK (L2 := [some (.inr (.inr 94)), some (.inl c), some (.inl r), some (.inl a), some (.inl q), some (.inl 0), some (.inl x6_41_2), some (.inl 1), some (.inl 5), none, none]) rfl rfl rfl ?_
                                                refine jv_iconst rfl rfl ?_
                                                refine jv_istoreK (L2 := [some (.inr (.inr 94)), some (.inl c), some (.inl r), some (.inl a), some (.inl q), some (.inl 0), some (.inl x6_41_2), some (.inl 1), some (.inl 5), some (.inl 0), none]) rfl rfl rfl ?_
                                                refine jv_iload rfl rfl rfl ?_
                                                refine jv_istoreK (L2 := [some (.inr (.inr 94)), some (.inl c), some (.inl r), some (.inl a), some (.inl q), some (.inl 0), some (.inl x6_41_2), some (.inl 1), some (.inl 5), some (.inl 0), some (.inl 1)]) rfl rfl rfl ?_
                                                exfalso; omega
                                            · first
                                              | (exfalso; omega)
                                              | skip
                                                refine jv_iload rfl rfl rfl ?_
                                                refine jv_iconst rfl rfl ?_
                                                refine jv_icmp_ne rfl rfl rfl (fun c55_8 => ?_) (fun c55_8 => ?_)
                                                · first
                                                  | (exfalso; omega)
                                                  | skip
                                                    refine jv_iload rfl rfl rfl ?_
                                                    refine jv_iconst rfl rfl ?_
                                                    refine jv_icmp_ne rfl rfl rfl (fun c60_8 => ?_) (fun c60_8 => ?_)
                                                    · first
                                                      | (exfalso; omega)
                                                      | skip
                                                        refine jv_bipush rfl rfl ?_
                                                        refine jv_istoreK (L2 := [some (.inr (.inr 94)), some (.inl c), some (.inl r), some (.inl a), some (.inl q), some (.inl 0), some (.inl x6_41_2), some (.inl 1), some (.inl 9), none, none]) rfl rfl rfl ?_
                                                        refine jv_iconst rfl rfl ?_
                                                        refine jv_istoreK (L2 := [some (.inr (.inr 94)), some (.inl c), some (.inl r), some (.inl a), some (.inl q), some (.inl 0), some (.inl x6_41_2), some (.inl 1), some (.inl 9), some (.inl 0), none]) rfl rfl rfl ?_
                                                        refine jv_iload rfl rfl rfl ?_
                                                        refine jv_istoreK (L2 := [some (.inr (.inr 94)), some (.inl c), some (.inl r), some (.inl a), some (.inl q), some (.inl 0), some (.inl x6_41_2), some (.inl 1), some (.inl 9), some (.inl 0), some (.inl 1)]) rfl rfl rfl ?_
                                                        exfalso; omega
                                                    · first
                                                      | (exfalso; omega)
                                                      | skip
                                                        refine jv_bipush rfl rfl ?_
                                                        refine jv_goto rfl rfl ?_
                                                        refine jv_istoreK (L2 := [some (.inr (.inr 94)), some (.inl c), some (.inl r), some (.inl a), some (.inl q), some (.inl 0), some (.inl x6_41_2), some (.inl 1), some (.inl 29), none, none]) rfl rfl rfl ?_
                                                        refine jv_iconst rfl rfl ?_
                                                        refine jv_istoreK (L2 := [some (.inr (.inr 94)), some (.inl c), some (.inl r), some (.inl a), some (.inl q), some (.inl 0), some (.inl x6_41_2), some (.inl 1), some (.inl 29), some (.inl 0), none]) rfl rfl rfl ?_
                                                        refine jv_iload rfl rfl rfl ?_
                                                        refine jv_istoreK (L2 := [some (.inr (.inr 94)), some (.inl c), some (.inl r), some (.inl a), some (.inl q), some (.inl 0), some (.inl x6_41_2), some (.inl 1), some (.inl 29), some (.inl 0), some (.inl 1)]) rfl rfl rfl ?_
                                                        exfalso; omega
                                                · first
                                                  | (exfalso; omega)
                                                  | skip
                                                    refine jv_iconst rfl rfl ?_
                                                    refine jv_goto rfl rfl ?_
                                                    refine jv_istoreK (L2 := [some (.inr (.inr 94)), some (.inl c), some (.inl r), some (.inl a), some (.inl q), some (.inl 0), some (.inl x6_41_2), some (.inl 1), some (.inl 5), none, none]) rfl rfl rfl ?_
                                                    refine jv_iconst rfl rfl ?_
                                                    refine jv_istoreK (L2 := [some (.inr (.inr 94)), some (.inl c), some (.inl r), some (.inl a), some (.inl q), some (.inl 0), some (.inl x6_41_2), some (.inl 1), some (.inl 5), some (.inl 0), none]) rfl rfl rfl ?_
                                                    refine jv_iload rfl rfl rfl ?_
                                                    refine jv_istoreK (L2 := [some (.inr (.inr 94)), some (.inl c), some (.inl r), some (.inl a), some (.inl q), some (.inl 0), some (.inl x6_41_2), some (.inl 1), some (.inl 5), some (.inl 0), some (.inl 1)]) rfl rfl rfl ?_
                                                    exfalso; omega
                            · first
                              | (exfalso; omega)
                              | skip
                                refine jv_bipush rfl rfl ?_
                                refine jv_goto rfl rfl ?_
                                refine jv_iload_n rfl rfl rfl ?_
                                refine jv_iadd rfl rfl ⟨by omega, by omega⟩ ?_
                                refine jv_istore (fun x => [some (.inr (.inr 94)), some (.inl c), some (.inl r), some (.inl a), some (.inl q), some (.inl 0), some (.inl x), none, none, none, none]) rfl rfl (fun _ => rfl) (fun x6_41_3 ex6_41_3 => ?_)
                                refine jv_iload rfl rfl rfl ?_
                                refine jv_if_eq rfl rfl rfl (fun c43_3 => ?_) (fun c43_3 => ?_)
                                · first
                                  | (exfalso; omega)
                                  | skip
                                    refine jv_iconst rfl rfl ?_
                                    refine jv_goto rfl rfl ?_
                                    refine jv_istoreK (L2 := [some (.inr (.inr 94)), some (.inl c), some (.inl r), some (.inl a), some (.inl q), some (.inl 0), some (.inl x6_41_3), some (.inl 1), none, none, none]) rfl rfl rfl ?_
                                    refine jv_iload rfl rfl rfl ?_
                                    refine jv_if_eq rfl rfl rfl (fun c52_9 => ?_) (fun c52_9 => ?_)
                                    · first
                                      | (exfalso; omega)
                                      | skip
                                        refine jv_iconst rfl rfl ?_
                                        refine jv_goto rfl rfl ?_
                                        refine jv_istoreK (L2 := [some (.inr (.inr 94)), some (.inl c), some (.inl r), some (.inl a), some (.inl q), some (.inl 0), some (.inl x6_41_3), some (.inl 1), some (.inl 5), none, none]) rfl rfl rfl ?_
                                        refine jv_iconst rfl rfl ?_
                                        refine jv_istoreK (L2 := [some (.inr (.inr 94)), some (.inl c), some (.inl r), some (.inl a), some (.inl q), some (.inl 0), some (.inl x6_41_3), some (.inl 1), some (.inl 5), some (.inl 0), none]) rfl rfl rfl ?_
                                        refine jv_iload rfl rfl rfl ?_
                                        refine jv_istoreK (L2 := [some (.inr (.inr 94)), some (.inl c), some (.inl r), some (.inl a), some (.inl q), some (.inl 0), some (.inl x6_41_3), some (.inl 1), some (.inl 5), some (.inl 0), some (.inl 1)]) rfl rfl rfl ?_
                                        exfalso; omega
                                    · first
                                      | (exfalso; omega)
                                      | skip
                                        refine jv_iload rfl rfl rfl ?_
                                        refine jv_iconst rfl rfl ?_
                                        refine jv_icmp_ne rfl rfl rfl (fun c55_9 => ?_) (fun c55_9 => ?_)
                                        · first
                                          | (exfalso; omega)
                                          | skip
                                            refine jv_iload rfl rfl rfl ?_
                                            refine jv_iconst rfl rfl ?_
                                            refine jv_icmp_ne rfl rfl rfl (fun c60_9 => ?_) (fun c60_9 => ?_)
                                            · first
                                              | (exfalso; omega)
                                              | skip
                                                refine jv_bipush rfl rfl ?_
                                                refine jv_istoreK (L2 := [some (.inr (.inr 94)), some (.inl c), some (.inl r), some (.inl a), some (.inl q), some (.inl 0), some (.inl x6_41_3), some (.inl 1), some (.inl 9), none, none]) rfl rfl rfl ?_
                                                refine jv_iconst rfl rfl ?_
                                                refine jv_istoreK (L2 := [some (.inr (.inr 94)), some (.inl c), some (.inl r), some (.inl a), some (.inl q), some (.inl 0), some (.inl x6_41_3), some (.inl 1), some (.inl 9), some (.inl 0), none]) rfl rfl rfl ?_
                                                refine jv_iload rfl rfl rfl ?_
                                                refine jv_istoreK (L2 := [some (.inr (.inr 94)), some (.inl c), some (.inl r), some (.inl a), some (.inl q), some (.inl 0), some (.inl x6_41_3), some (.inl 1), some (.inl 9), some (.inl 0), some (.inl 1)]) rfl rfl rfl ?_
                                                exfalso; omega
                                            · first
                                              | (exfalso; omega)
                                              | skip
                                                refine jv_bipush rfl rfl ?_
                                                refine jv_goto rfl rfl ?_
                                                refine jv_istoreK (L2 := [some (.inr (.inr 94)), some (.inl c), some (.inl r), some (.inl a), some (.inl q), some (.inl 0), some (.inl x6_41_3), some (.inl 1), some (.inl 29), none, none]) rfl rfl rfl ?_
                                                refine jv_iconst rfl rfl ?_
                                                refine jv_istoreK (L2 := [some (.inr (.inr 94)), some (.inl c), some (.inl r), some (.inl a), some (.inl q), some (.inl 0), some (.inl x6_41_3), some (.inl 1), some (.inl 29), some (.inl 0), none]) rfl rfl rfl ?_
                                                refine jv_iload rfl rfl rfl ?_
                                                refine jv_istoreK (L2 := [some (.inr (.inr 94)), some (.inl c), some (.inl r), some (.inl a), some (.inl q), some (.inl 0), some (.inl x6_41_3), some (.inl 1), some (.inl 29), some (.inl 0), some (.inl 1)]) rfl rfl rfl ?_
                                                exfalso; omega
                                        · first
                                          | (exfalso; omega)
                                          | skip
                                            refine jv_iconst rfl rfl ?_
                                            refine jv_goto rfl rfl ?_
                                            refine jv_istoreK (L2 := [some (.inr (.inr 94)), some (.inl c), some (.inl r), some (.inl a), some (.inl q), some (.inl 0), some (.inl x6_41_3), some (.inl 1), some (.inl 5), none, none]) rfl rfl rfl ?_
                                            refine jv_iconst rfl rfl ?_
                                            refine jv_istoreK (L2 := [some (.inr (.inr 94)), some (.inl c), some (.inl r), some (.inl a), some (.inl q), some (.inl 0), some (.inl x6_41_3), some (.inl 1), some (.inl 5), some (.inl 0), none]) rfl rfl rfl ?_
                                            refine jv_iload rfl rfl rfl ?_
                                            refine jv_istoreK (L2 := [some (.inr (.inr 94)), some (.inl c), some (.inl r), some (.inl a), some (.inl q), some (.inl 0), some (.inl x6_41_3), some (.inl 1), some (.inl 5), some (.inl 0), some (.inl 1)]) rfl rfl rfl ?_
                                            exfalso; omega
                                · first
                                  | (exfalso; omega)
                                  | skip
                                    refine jv_iload rfl rfl rfl ?_
                                    refine jv_iconst rfl rfl ?_
                                    refine jv_icmp_ne rfl rfl rfl (fun c46_3 => ?_) (fun c46_3 => ?_)
                                    · first
                                      | (exfalso; omega)
                                      | skip
                                        refine jv_iconst rfl rfl ?_
                                        refine jv_istoreK (L2 := [some (.inr (.inr 94)), some (.inl c), some (.inl r), some (.inl a), some (.inl q), some (.inl 0), some (.inl x6_41_3), some (.inl 0), none, none, none]) rfl rfl rfl ?_
                                        refine jv_iload rfl rfl rfl ?_
                                        refine jv_if_eq rfl rfl rfl (fun c52_10 => ?_) (fun c52_10 => ?_)
                                        · first
                                          | (exfalso; omega)
                                          | skip
                                            refine jv_iconst rfl rfl ?_
                                            refine jv_goto rfl rfl ?_
                                            refine jv_istoreK (L2 := [some (.inr (.inr 94)), some (.inl c), some (.inl r), some (.inl a), some (.inl q), some (.inl 0), some (.inl x6_41_3), some (.inl 0), some (.inl 5), none, none]) rfl rfl rfl ?_
                                            refine jv_iconst rfl rfl ?_
                                            refine jv_istoreK (L2 := [some (.inr (.inr 94)), some (.inl c), some (.inl r), some (.inl a), some (.inl q), some (.inl 0), some (.inl x6_41_3), some (.inl 0), some (.inl 5), some (.inl 0), none]) rfl rfl rfl ?_
                                            refine jv_iload rfl rfl rfl ?_
                                            refine jv_istoreK (L2 := [some (.inr (.inr 94)), some (.inl c), some (.inl r), some (.inl a), some (.inl q), some (.inl 0), some (.inl x6_41_3), some (.inl 0), some (.inl 5), some (.inl 0), some (.inl 0)]) rfl rfl rfl ?_
                                            exfalso; omega
                                        · first
                                          | (exfalso; omega)
                                          | skip
                                            refine jv_iload rfl rfl rfl ?_
                                            refine jv_iconst rfl rfl ?_
                                            refine jv_icmp_ne rfl rfl rfl (fun c55_10 => ?_) (fun c55_10 => ?_)
                                            · first
                                              | (exfalso; omega)
                                              | skip
                                                refine jv_iload rfl rfl rfl ?_
                                                refine jv_iconst rfl rfl ?_
                                                refine jv_icmp_ne rfl rfl rfl (fun c60_10 => ?_) (fun c60_10 => ?_)
                                                · first
                                                  | (exfalso; omega)
                                                  | skip
                                                    refine jv_bipush rfl rfl ?_
                                                    refine jv_istoreK (L2 := [some (.inr (.inr 94)), some (.inl c), some (.inl r), some (.inl a), some (.inl q), some (.inl 0), some (.inl x6_41_3), some (.inl 0), some (.inl 9), none, none]) rfl rfl rfl ?_
                                                    refine jv_iconst rfl rfl ?_
                                                    refine jv_istoreK (L2 := [some (.inr (.inr 94)), some (.inl c), some (.inl r), some (.inl a), some (.inl q), some (.inl 0), some (.inl x6_41_3), some (.inl 0), some (.inl 9), some (.inl 0), none]) rfl rfl rfl ?_
                                                    refine jv_iload rfl rfl rfl ?_
                                                    refine jv_istoreK (L2 := [some (.inr (.inr 94)), some (.inl c), some (.inl r), some (.inl a), some (.inl q), some (.inl 0), some (.inl x6_41_3), some (.inl 0), some (.inl 9), some (.inl 0), some (.inl 0)]) rfl rfl rfl ?_
                                                    exfalso; omega
                                                · first
                                                  | (exfalso; omega)
                                                  | skip
                                                    refine jv_bipush rfl rfl ?_
                                                    refine jv_goto rfl rfl ?_
                                                    refine jv_istoreK (L2 := [some (.inr (.inr 94)), some (.inl c), some (.inl r), some (.inl a), some (.inl q), some (.inl 0), some (.inl x6_41_3), some (.inl 0), some (.inl 29), none, none]) rfl rfl rfl ?_
                                                    refine jv_iconst rfl rfl ?_
                                                    refine jv_istoreK (L2 := [some (.inr (.inr 94)), some (.inl c), some (.inl r), some (.inl a), some (.inl q), some (.inl 0), some (.inl x6_41_3), some (.inl 0), some (.inl 29), some (.inl 0), none]) rfl rfl rfl ?_
                                                    refine jv_iload rfl rfl rfl ?_
                                                    refine jv_istoreK (L2 := [some (.inr (.inr 94)), some (.inl c), some (.inl r), some (.inl a), some (.inl q), some (.inl 0), some (.inl x6_41_3), some (.inl 0), some (.inl 29), some (.inl 0), some (.inl 0)]) rfl rfl rfl ?_
                                                    exfalso; omega
                                            · first
                                              | (exfalso; omega)
                                              | skip
                                                refine jv_iconst rfl rfl ?_
                                                refine jv_goto rfl rfl ?_
                                                refine jv_istoreK (L2 := [some (.inr (.inr 94)), some (.inl c), some (.inl r), some (.inl a), some (.inl q), some (.inl 0), some (.inl x6_41_3), some (.inl 0), some (.inl 5), none, none]) rfl rfl rfl ?_
                                                refine jv_iconst rfl rfl ?_
                                                refine jv_istoreK (L2 := [some (.inr (.inr 94)), some (.inl c), some (.inl r), some (.inl a), some (.inl q), some (.inl 0), some (.inl x6_41_3), some (.inl 0), some (.inl 5), some (.inl 0), none]) rfl rfl rfl ?_
                                                refine jv_iload rfl rfl rfl ?_
                                                refine jv_istoreK (L2 := [some (.inr (.inr 94)), some (.inl c), some (.inl r), some (.inl a), some (.inl q), some (.inl 0), some (.inl x6_41_3), some (.inl 0), some (.inl 5), some (.inl 0), some (.inl 0)]) rfl rfl rfl ?_
                                                exfalso; omega
                                    · first
                                      | (exfalso; omega)
                                      | skip
                                        refine jv_iconst rfl rfl ?_
                                        refine jv_goto rfl rfl ?_
                                        refine jv_istoreK (L2 := [some (.inr (.inr 94)), some (.inl c), some (.inl r), some (.inl a), some (.inl q), some (.inl 0), some (.inl x6_41_3), some (.inl 1), none, none, none]) rfl rfl rfl ?_
                                        refine jv_iload rfl rfl rfl ?_
                                        refine jv_if_eq rfl rfl rfl (fun c52_11 => ?_) (fun c52_11 => ?_)
                                        · first
                                          | (exfalso; omega)
                                          | skip
                                            refine jv_iconst rfl rfl ?_
                                            refine jv_goto rfl rfl ?_
                                            refine jv_istoreK (L2 := [some (.inr (.inr 94)), some (.inl c), some (.inl r), some (.inl a), some (.inl q), some (.inl 0), some (.inl x6_41_3), some (.inl 1), some (.inl 5), none, none]) rfl rfl rfl ?_
                                            refine jv_iconst rfl rfl ?_
                                            refine jv_istoreK (L2 := [some (.inr (.inr 94)), some (.inl c), some (.inl r), some (.inl a), some (.inl q), some (.inl 0), some (.inl x6_41_3), some (.inl 1), some (.inl 5), some (.inl 0), none]) rfl rfl rfl ?_
                                            refine jv_iload rfl rfl rfl ?_
                                            refine jv_istoreK (L2 := [some (.inr (.inr 94)), some (.inl c), some (.inl r), some (.inl a), some (.inl q), some (.inl 0), some (.inl x6_41_3), some (.inl 1), some (.inl 5), some (.inl 0), some (.inl 1)]) rfl rfl rfl ?_
                                            exfalso; omega
                                        · first
                                          | (exfalso; omega)
                                          | skip
                                            refine jv_iload rfl rfl rfl ?_
                                            refine jv_iconst rfl rfl ?_
                                            refine jv_icmp_ne rfl rfl rfl (fun c55_11 => ?_) (fun c55_11 => ?_)
                                            · first
                                              | (exfalso; omega)
                                              | skip
                                                refine jv_iload rfl rfl rfl ?_
                                                refine jv_iconst rfl rfl ?_
                                                refine jv_icmp_ne rfl rfl rfl (fun c60_11 => ?_) (fun c60_11 => ?_)
                                                · first
                                                  | (exfalso; omega)
                                                  | skip
                                                    refine jv_bipush rfl rfl ?_
                                                    refine jv_istoreK (L2 := [some (.inr (.inr 94)), some (.inl c), some (.inl r), some (.inl a), some (.inl q), some (.inl 0), some (.inl x6_41_3), some (.inl 1), some (.inl 9), none, none]) rfl rfl rfl ?_
                                                    refine jv_iconst rfl rfl ?_
                                                    refine jv_istoreK (L2 := [some (.inr (.inr 94)), some (.inl c), some (.inl r), some (.inl a), some (.inl q), some (.inl 0), some (.inl x6_41_3), some (.inl 1), some (.inl 9), some (.inl 0), none]) rfl rfl rfl ?_
                                                    refine jv_iload rfl rfl rfl ?_
                                                    refine jv_istoreK (L2 := [some (.inr (.inr 94)), some (.inl c), some (.inl r), some (.inl a), some (.inl q), some (.inl 0), some (.inl x6_41_3), some (.inl 1), some (.inl 9), some (.inl 0), some (.inl 1)]) rfl rfl rfl ?_
                                                    exfalso; omega
                                                · first
                                                  | (exfalso; omega)
                                                  | skip
                                                    refine jv_bipush rfl rfl ?_
                                                    refine jv_goto rfl rfl ?_
                                                    refine jv_istoreK (L2 := [some (.inr (.inr 94)), some (.inl c), some (.inl r), some (.inl a), some (.inl q), some (.inl 0), some (.inl x6_41_3), some (.inl 1), some (.inl 29), none, none]) rfl rfl rfl ?_
                                                    refine jv_iconst rfl rfl ?_
                                                    refine jv_istoreK (L2 := [some (.inr (.inr 94)), some (.inl c), some (.inl r), some (.inl a), some (.inl q), some (.inl 0), some (.inl x6_41_3), some (.inl 1), some (.inl 29), some (.inl 0), none]) rfl rfl rfl ?_
                                                    refine jv_iload rfl rfl rfl ?_
                                                    refine jv_istoreK (L2 := [some (.inr (.inr 94)), some (.inl c), some (.inl r), some (.inl a), some (.inl q), some (.inl 0), some (.inl x6_41_3), some (.inl 1), some (.inl 29), some (.inl 0), some (.inl 1)]) rfl rfl rfl ?_
                                                    exfalso; omega
                                            · first
                                              | (exfalso; omega)
                                              | skip
                                                refine jv_iconst rfl rfl ?_
                                                refine jv_goto rfl rfl ?_
                                                refine jv_istoreK (L2 := [some (.inr (.inr 94)), some (.inl c), some (.inl r), some (.inl a), some (.inl q), some (.inl 0), some (.inl x6_41_3), some (.inl 1), some (.inl 5), none, none]) rfl rfl rfl ?_
                                                refine jv_iconst rfl rfl ?_
                                                refine jv_istoreK (L2 := [some (.inr (.inr 94)), some (.inl c), some (.inl r), some (.inl a), some (.inl q), some (.inl 0), some (.inl x6_41_3), some (.inl 1), some (.inl 5), some (.inl 0), none]) rfl rfl rfl ?_
                                                refine jv_iload rfl rfl rfl ?_
                                                refine jv_istoreK (L2 := [some (.inr (.inr 94)), some (.inl c), some (.inl r), some (.inl a), some (.inl q), some (.inl 0), some (.inl x6_41_3), some (.inl 1), some (.inl 5), some (.inl 0), some (.inl 1)]) rfl rfl rfl ?_
                                                exfalso; omega
                        · first
                          | (exfalso; omega)
                          | skip
                            show jV _ _ jm_p_X10_fits _ 19 [some (.inr (.inr 94)), some (.inl c), some (.inl r), some (.inl a), some (.inl q), none, none, none, none, none, none] [.inl (-1000012)] ν18_1
                            refine jv_istoreK (L2 := [some (.inr (.inr 94)), some (.inl c), some (.inl r), some (.inl a), some (.inl q), some (.inl (-1000012)), none, none, none, none, none]) rfl rfl rfl ?_
                            refine jv_iload rfl rfl rfl ?_
                            refine jv_if_eqF rfl rfl (by decide) ?_
                            refine jv_iload rfl rfl rfl ?_
                            refine jv_ireturn rfl (Or.inl rfl) ?_
                            exact ⟨jv_one (by omega), jI_find hI eμ23_1 eν18_1⟩
                    · first
                      | (exfalso; omega)
                      | skip
                        show jV _ _ jm_p_X10_fits _ 12 [some (.inr (.inr 94)), some (.inl c), some (.inl r), some (.inl a), some (.inl q), none, none, none, none, none, none] [.inl 0] μ23_1
                        refine jv_if_neF rfl rfl (by decide) ?_
                        refine jv_ldc rfl rfl ?_
                        refine jv_ireturn rfl (Or.inl rfl) ?_
                        exact ⟨jv_one (by omega), by exfalso; omega⟩
                · first
                  | (exfalso; omega)
                  | skip
                    show jV _ _ jm_p_X10_fits _ 6 [some (.inr (.inr 94)), some (.inl c), some (.inl r), some (.inl a), some (.inl q), none, none, none, none, none, none] [.inl 0] μ23_1
                    refine jv_if_eqT rfl rfl (by decide) ?_
                    refine jv_ldc rfl rfl ?_
                    refine jv_ireturn rfl (Or.inl rfl) ?_
                    exact ⟨jv_one (by omega), by exfalso; omega⟩
            · first
              | (exfalso; omega)
              | skip
                show jV _ _ jm_p_X10_fits _ 3 [some (.inr (.inr 94)), some (.inl c), some (.inl r), some (.inl a), some (.inl q), none, none, none, none, none, none] [.inl 0] μ23_1
                refine jv_if_eqT rfl rfl (by decide) ?_
                refine jv_ldc rfl rfl ?_
                refine jv_ireturn rfl (Or.inl rfl) ?_
                exact ⟨jv_one (by omega), by exfalso; omega⟩
        · refine jv_ldc rfl rfl ?_
          refine jv_ireturn rfl (Or.inl rfl) ?_
          refine ⟨_, rfl, ?_⟩
          have fc : jf μ μ := jf_id μ
          have hUμ : jU μ (μ 95) := jU_jf fc
          have q94μ : μ 94 1 = μ 94 1 := by rw [fc 94 (by omega)]
          refine jv_enter (d := 199) jm_p_X10_fits [some (.inr (.inr 94)), some (.inl c), some (.inl r), some (.inl a), some (.inl q), none, none, none, none, none, none] rfl rfl rfl (Nat.le_of_ble_eq_true rfl) rfl rfl ?_
          refine jv_aload_n rfl rfl rfl (by decide) ?_
          refine jv_iload_n rfl rfl rfl ?_
          refine jv_callV1 rfl rfl rfl rfl ⟨by decide, rfl⟩ (Nat.le_of_ble_eq_true rfl) (mo_isComer (by omega) (fun b2 => ?_) (fun b2 => ?_))
          · first
            | (exfalso; omega)
            | skip
              show jV _ _ jm_p_X10_fits _ 3 [some (.inr (.inr 94)), some (.inl c), some (.inl r), some (.inl a), some (.inl q), none, none, none, none, none, none] [.inl 1] μ
              refine jv_if_eqF rfl rfl (by decide) ?_
              refine jv_iload_n rfl rfl rfl ?_
              refine jv_callS1 rfl rfl rfl (Nat.le_of_ble_eq_true rfl) (mo_isRow (fun b5 => ?_) (fun b5 => ?_))
              · first
                | (exfalso; omega)
                | skip
                  show jV _ _ jm_p_X10_fits _ 6 [some (.inr (.inr 94)), some (.inl c), some (.inl r), some (.inl a), some (.inl q), none, none, none, none, none, none] [.inl 1] μ
                  refine jv_if_eqF rfl rfl (by decide) ?_
                  refine jv_iload rfl rfl rfl ?_
                  refine jv_i2l rfl rfl ?_
                  refine jv_lconst rfl rfl ?_
                  refine jv_ldc2_w rfl rfl ?_
                  refine jv_callS3 rfl rfl rfl (Nat.le_of_ble_eq_true rfl) (mo_in (fun b11 => ?_) (fun b11 => ?_))
                  · first
                    | (exfalso; omega)
                    | skip
                      show jV _ _ jm_p_X10_fits _ 12 [some (.inr (.inr 94)), some (.inl c), some (.inl r), some (.inl a), some (.inl q), none, none, none, none, none, none] [.inl 1] μ
                      refine jv_if_neT rfl rfl (by decide) ?_
                      refine jv_aload_n rfl rfl rfl (by decide) ?_
                      refine jv_iload_n rfl rfl rfl ?_
                      refine jv_iload_n rfl rfl rfl ?_
                      refine jv_callV2 rfl rfl rfl rfl ⟨by decide, rfl⟩ (Nat.le_of_ble_eq_true rfl) (mo_noItems (by omega) (by omega) (by omega) (by omega) (fun h18_0 ν18 eν18 => ?_) (fun h18_0 h18_1 => ?_) (fun h18_0 h18_1 ν18_1 eν18_1 => ?_))
                      · first
                        | (exfalso; omega)
                        | skip
                          show jV _ _ jm_p_X10_fits _ 19 [some (.inr (.inr 94)), some (.inl c), some (.inl r), some (.inl a), some (.inl q), none, none, none, none, none, none] [.inl (-1000011)] ν18
                          refine jv_istoreK (L2 := [some (.inr (.inr 94)), some (.inl c), some (.inl r), some (.inl a), some (.inl q), some (.inl (-1000011)), none, none, none, none, none]) rfl rfl rfl ?_
                          refine jv_iload rfl rfl rfl ?_
                          refine jv_if_eqF rfl rfl (by decide) ?_
                          refine jv_iload rfl rfl rfl ?_
                          refine jv_ireturn rfl (Or.inl rfl) ?_
                          exact ⟨jv_one (by omega), by exfalso; omega⟩
                      · first
                        | (exfalso; omega)
                        | skip
                          show jV _ _ jm_p_X10_fits _ 19 [some (.inr (.inr 94)), some (.inl c), some (.inl r), some (.inl a), some (.inl q), none, none, none, none, none, none] [.inl 0] μ
                          refine jv_istoreK (L2 := [some (.inr (.inr 94)), some (.inl c), some (.inl r), some (.inl a), some (.inl q), some (.inl 0), none, none, none, none, none]) rfl rfl rfl ?_
                          refine jv_iload rfl rfl rfl ?_
                          refine jv_if_eqT rfl rfl (by decide) ?_
                          refine jv_iload rfl rfl rfl ?_
                          refine jv_if_ne rfl rfl rfl (fun c25 => ?_) (fun c25 => ?_)
                          · first
                            | (exfalso; omega)
                            | skip
                              refine jv_iload rfl rfl rfl ?_
                              refine jv_iconst rfl rfl ?_
                              refine jv_icmp_ne rfl rfl rfl (fun c30 => ?_) (fun c30 => ?_)
                              · first
                                | (exfalso; omega)
                                | skip
                                  refine jv_iload rfl rfl rfl ?_
                                  refine jv_iconst rfl rfl ?_
                                  refine jv_icmp_ne rfl rfl rfl (fun c35 => ?_) (fun c35 => ?_)
                                  · first
                                    | (exfalso; omega)
                                    | skip
                                      refine jv_bipush rfl rfl ?_
                                      refine jv_iload_n rfl rfl rfl ?_
                                      refine jv_iadd rfl rfl ⟨by omega, by omega⟩ ?_
                                      refine jv_istore (fun x => [some (.inr (.inr 94)), some (.inl c), some (.inl r), some (.inl a), some (.inl q), some (.inl 0), some (.inl x), none, none, none, none]) rfl rfl (fun _ => rfl) (fun x6_41 ex6_41 => ?_)
                                      refine jv_iload rfl rfl rfl ?_
                                      refine jv_if_eq rfl rfl rfl (fun c43 => ?_) (fun c43 => ?_)
                                      · first
                                        | (exfalso; omega)
                                        | skip
                                          refine jv_iconst rfl rfl ?_
                                          refine jv_goto rfl rfl ?_
                                          refine jv_istoreK (L2 := [some (.inr (.inr 94)), some (.inl c), some (.inl r), some (.inl a), some (.inl q), some (.inl 0), some (.inl x6_41), some (.inl 1), none, none, none]) rfl rfl rfl ?_
                                          refine jv_iload rfl rfl rfl ?_
                                          refine jv_if_eq rfl rfl rfl (fun c52 => ?_) (fun c52 => ?_)
                                          · first
                                            | (exfalso; omega)
                                            | skip
                                              refine jv_iconst rfl rfl ?_
                                              refine jv_goto rfl rfl ?_
                                              refine jv_istoreK (L2 := [some (.inr (.inr 94)), some (.inl c), some (.inl r), some (.inl a), some (.inl q), some (.inl 0), some (.inl x6_41), some (.inl 1), some (.inl 5), none, none]) rfl rfl rfl ?_
                                              refine jv_iconst rfl rfl ?_
                                              refine jv_istoreK (L2 := [some (.inr (.inr 94)), some (.inl c), some (.inl r), some (.inl a), some (.inl q), some (.inl 0), some (.inl x6_41), some (.inl 1), some (.inl 5), some (.inl 0), none]) rfl rfl rfl ?_
                                              refine jv_iload rfl rfl rfl ?_
                                              refine jv_istoreK (L2 := [some (.inr (.inr 94)), some (.inl c), some (.inl r), some (.inl a), some (.inl q), some (.inl 0), some (.inl x6_41), some (.inl 1), some (.inl 5), some (.inl 0), some (.inl 1)]) rfl rfl rfl ?_
                                              exfalso; omega
                                          · first
                                            | (exfalso; omega)
                                            | skip
                                              refine jv_iload rfl rfl rfl ?_
                                              refine jv_iconst rfl rfl ?_
                                              refine jv_icmp_ne rfl rfl rfl (fun c55 => ?_) (fun c55 => ?_)
                                              · first
                                                | (exfalso; omega)
                                                | skip
                                                  refine jv_iload rfl rfl rfl ?_
                                                  refine jv_iconst rfl rfl ?_
                                                  refine jv_icmp_ne rfl rfl rfl (fun c60 => ?_) (fun c60 => ?_)
                                                  · first
                                                    | (exfalso; omega)
                                                    | skip
                                                      refine jv_bipush rfl rfl ?_
                                                      refine jv_istoreK (L2 := [some (.inr (.inr 94)), some (.inl c), some (.inl r), some (.inl a), some (.inl q), some (.inl 0), some (.inl x6_41), some (.inl 1), some (.inl 9), none, none]) rfl rfl rfl ?_
                                                      refine jv_iconst rfl rfl ?_
                                                      refine jv_istoreK (L2 := [some (.inr (.inr 94)), some (.inl c), some (.inl r), some (.inl a), some (.inl q), some (.inl 0), some (.inl x6_41), some (.inl 1), some (.inl 9), some (.inl 0), none]) rfl rfl rfl ?_
                                                      refine jv_iload rfl rfl rfl ?_
                                                      refine jv_istoreK (L2 := [some (.inr (.inr 94)), some (.inl c), some (.inl r), some (.inl a), some (.inl q), some (.inl 0), some (.inl x6_41), some (.inl 1), some (.inl 9), some (.inl 0), some (.inl 1)]) rfl rfl rfl ?_
                                                      exfalso; omega
                                                  · first
                                                    | (exfalso; omega)
                                                    | skip
                                                      refine jv_bipush rfl rfl ?_
                                                      refine jv_goto rfl rfl ?_
                                                      refine jv_istoreK (L2 := [some (.inr (.inr 94)), some (.inl c), some (.inl r), some (.inl a), some (.inl q), some (.inl 0), some (.inl x6_41), some (.inl 1), some (.inl 29), none, none]) rfl rfl rfl ?_
                                                      refine jv_iconst rfl rfl ?_
                                                      refine jv_istoreK (L2 := [some (.inr (.inr 94)), some (.inl c), some (.inl r), some (.inl a), some (.inl q), some (.inl 0), some (.inl x6_41), some (.inl 1), some (.inl 29), some (.inl 0), none]) rfl rfl rfl ?_
                                                      refine jv_iload rfl rfl rfl ?_
                                                      refine jv_istoreK (L2 := [some (.inr (.inr 94)), some (.inl c), some (.inl r), some (.inl a), some (.inl q), some (.inl 0), some (.inl x6_41), some (.inl 1), some (.inl 29), some (.inl 0), some (.inl 1)]) rfl rfl rfl ?_
                                                      exfalso; omega
                                              · first
                                                | (exfalso; omega)
                                                | skip
                                                  refine jv_iconst rfl rfl ?_
                                                  refine jv_goto rfl rfl ?_
                                                  refine jv_istoreK (L2 := [some (.inr (.inr 94)), some (.inl c), some (.inl r), some (.inl a), some (.inl q), some (.inl 0), some (.inl x6_41), some (.inl 1), some (.inl 5), none, none]) rfl rfl rfl ?_
                                                  refine jv_iconst rfl rfl ?_
                                                  refine jv_istoreK (L2 := [some (.inr (.inr 94)), some (.inl c), some (.inl r), some (.inl a), some (.inl q), some (.inl 0), some (.inl x6_41), some (.inl 1), some (.inl 5), some (.inl 0), none]) rfl rfl rfl ?_
                                                  refine jv_iload rfl rfl rfl ?_
                                                  refine jv_istoreK (L2 := [some (.inr (.inr 94)), some (.inl c), some (.inl r), some (.inl a), some (.inl q), some (.inl 0), some (.inl x6_41), some (.inl 1), some (.inl 5), some (.inl 0), some (.inl 1)]) rfl rfl rfl ?_
                                                  exfalso; omega
                                      · first
                                        | (exfalso; omega)
                                        | skip
                                          refine jv_iload rfl rfl rfl ?_
                                          refine jv_iconst rfl rfl ?_
                                          refine jv_icmp_ne rfl rfl rfl (fun c46 => ?_) (fun c46 => ?_)
                                          · first
                                            | (exfalso; omega)
                                            | skip
                                              refine jv_iconst rfl rfl ?_
                                              refine jv_istoreK (L2 := [some (.inr (.inr 94)), some (.inl c), some (.inl r), some (.inl a), some (.inl q), some (.inl 0), some (.inl x6_41), some (.inl 0), none, none, none]) rfl rfl rfl ?_
                                              refine jv_iload rfl rfl rfl ?_
                                              refine jv_if_eq rfl rfl rfl (fun c52_1 => ?_) (fun c52_1 => ?_)
                                              · first
                                                | (exfalso; omega)
                                                | skip
                                                  refine jv_iconst rfl rfl ?_
                                                  refine jv_goto rfl rfl ?_
                                                  refine jv_istoreK (L2 := [some (.inr (.inr 94)), some (.inl c), some (.inl r), some (.inl a), some (.inl q), some (.inl 0), some (.inl x6_41), some (.inl 0), some (.inl 5), none, none]) rfl rfl rfl ?_
                                                  refine jv_iconst rfl rfl ?_
                                                  refine jv_istoreK (L2 := [some (.inr (.inr 94)), some (.inl c), some (.inl r), some (.inl a), some (.inl q), some (.inl 0), some (.inl x6_41), some (.inl 0), some (.inl 5), some (.inl 0), none]) rfl rfl rfl ?_
                                                  refine jv_iload rfl rfl rfl ?_
                                                  refine jv_istoreK (L2 := [some (.inr (.inr 94)), some (.inl c), some (.inl r), some (.inl a), some (.inl q), some (.inl 0), some (.inl x6_41), some (.inl 0), some (.inl 5), some (.inl 0), some (.inl 0)]) rfl rfl rfl ?_
                                                  exfalso; omega
                                              · first
                                                | (exfalso; omega)
                                                | skip
                                                  refine jv_iload rfl rfl rfl ?_
                                                  refine jv_iconst rfl rfl ?_
                                                  refine jv_icmp_ne rfl rfl rfl (fun c55_1 => ?_) (fun c55_1 => ?_)
                                                  · first
                                                    | (exfalso; omega)
                                                    | skip
                                                      refine jv_iload rfl rfl rfl ?_
                                                      refine jv_iconst rfl rfl ?_
                                                      refine jv_icmp_ne rfl rfl rfl (fun c60_1 => ?_) (fun c60_1 => ?_)
                                                      · first
                                                        | (exfalso; omega)
                                                        | skip
                                                          refine jv_bipush rfl rfl ?_
                                                          refine jv_istoreK (L2 := [some (.inr (.inr 94)), some (.inl c), some (.inl r), some (.inl a), some (.inl q), some (.inl 0), some (.inl x6_41), some (.inl 0), some (.inl 9), none, none]) rfl rfl rfl ?_
                                                          refine jv_iconst rfl rfl ?_
                                                          refine jv_istoreK (L2 := [some (.inr (.inr 94)), some (.inl c), some (.inl r), some (.inl a), some (.inl q), some (.inl 0), some (.inl x6_41), some (.inl 0), some (.inl 9), some (.inl 0), none]) rfl rfl rfl ?_
                                                          refine jv_iload rfl rfl rfl ?_
                                                          refine jv_istoreK (L2 := [some (.inr (.inr 94)), some (.inl c), some (.inl r), some (.inl a), some (.inl q), some (.inl 0), some (.inl x6_41), some (.inl 0), some (.inl 9), some (.inl 0), some (.inl 0)]) rfl rfl rfl ?_
                                                          exfalso; omega
                                                      · first
                                                        | (exfalso; omega)
                                                        | skip
                                                          refine jv_bipush rfl rfl ?_
                                                          refine jv_goto rfl rfl ?_
                                                          refine jv_istoreK (L2 := [some (.inr (.inr 94)), some (.inl c), some (.inl r), some (.inl a), some (.inl q), some (.inl 0), some (.inl x6_41), some (.inl 0), some (.inl 29), none, none]) rfl rfl rfl ?_
                                                          refine jv_iconst rfl rfl ?_
                                                          refine jv_istoreK (L2 := [some (.inr (.inr 94)), some (.inl c), some (.inl r), some (.inl a), some (.inl q), some (.inl 0), some (.inl x6_41), some (.inl 0), some (.inl 29), some (.inl 0), none]) rfl rfl rfl ?_
                                                          refine jv_iload rfl rfl rfl ?_
                                                          refine jv_istoreK (L2 := [some (.inr (.inr 94)), some (.inl c), some (.inl r), some (.inl a), some (.inl q), some (.inl 0), some (.inl x6_41), some (.inl 0), some (.inl 29), some (.inl 0), some (.inl 0)]) rfl rfl rfl ?_
                                                          exfalso; omega
                                                  · first
                                                    | (exfalso; omega)
                                                    | skip
                                                      refine jv_iconst rfl rfl ?_
                                                      refine jv_goto rfl rfl ?_
                                                      refine jv_istoreK (L2 := [some (.inr (.inr 94)), some (.inl c), some (.inl r), some (.inl a), some (.inl q), some (.inl 0), some (.inl x6_41), some (.inl 0), some (.inl 5), none, none]) rfl rfl rfl ?_
                                                      refine jv_iconst rfl rfl ?_
                                                      refine jv_istoreK (L2 := [some (.inr (.inr 94)), some (.inl c), some (.inl r), some (.inl a), some (.inl q), some (.inl 0), some (.inl x6_41), some (.inl 0), some (.inl 5), some (.inl 0), none]) rfl rfl rfl ?_
                                                      refine jv_iload rfl rfl rfl ?_
                                                      refine jv_istoreK (L2 := [some (.inr (.inr 94)), some (.inl c), some (.inl r), some (.inl a), some (.inl q), some (.inl 0), some (.inl x6_41), some (.inl 0), some (.inl 5), some (.inl 0), some (.inl 0)]) rfl rfl rfl ?_
                                                      exfalso; omega
                                          · first
                                            | (exfalso; omega)
                                            | skip
                                              refine jv_iconst rfl rfl ?_
                                              refine jv_goto rfl rfl ?_
                                              refine jv_istoreK (L2 := [some (.inr (.inr 94)), some (.inl c), some (.inl r), some (.inl a), some (.inl q), some (.inl 0), some (.inl x6_41), some (.inl 1), none, none, none]) rfl rfl rfl ?_
                                              refine jv_iload rfl rfl rfl ?_
                                              refine jv_if_eq rfl rfl rfl (fun c52_2 => ?_) (fun c52_2 => ?_)
                                              · first
                                                | (exfalso; omega)
                                                | skip
                                                  refine jv_iconst rfl rfl ?_
                                                  refine jv_goto rfl rfl ?_
                                                  refine jv_istoreK (L2 := [some (.inr (.inr 94)), some (.inl c), some (.inl r), some (.inl a), some (.inl q), some (.inl 0), some (.inl x6_41), some (.inl 1), some (.inl 5), none, none]) rfl rfl rfl ?_
                                                  refine jv_iconst rfl rfl ?_
                                                  refine jv_istoreK (L2 := [some (.inr (.inr 94)), some (.inl c), some (.inl r), some (.inl a), some (.inl q), some (.inl 0), some (.inl x6_41), some (.inl 1), some (.inl 5), some (.inl 0), none]) rfl rfl rfl ?_
                                                  refine jv_iload rfl rfl rfl ?_
                                                  refine jv_istoreK (L2 := [some (.inr (.inr 94)), some (.inl c), some (.inl r), some (.inl a), some (.inl q), some (.inl 0), some (.inl x6_41), some (.inl 1), some (.inl 5), some (.inl 0), some (.inl 1)]) rfl rfl rfl ?_
                                                  exfalso; omega
                                              · first
                                                | (exfalso; omega)
                                                | skip
                                                  refine jv_iload rfl rfl rfl ?_
                                                  refine jv_iconst rfl rfl ?_
                                                  refine jv_icmp_ne rfl rfl rfl (fun c55_2 => ?_) (fun c55_2 => ?_)
                                                  · first
                                                    | (exfalso; omega)
                                                    | skip
                                                      refine jv_iload rfl rfl rfl ?_
                                                      refine jv_iconst rfl rfl ?_
                                                      refine jv_icmp_ne rfl rfl rfl (fun c60_2 => ?_) (fun c60_2 => ?_)
                                                      · first
                                                        | (exfalso; omega)
                                                        | skip
                                                          refine jv_bipush rfl rfl ?_
                                                          refine jv_istoreK (L2 := [some (.inr (.inr 94)), some (.inl c), some (.inl r), some (.inl a), some (.inl q), some (.inl 0), some (.inl x6_41), some (.inl 1), some (.inl 9), none, none]) rfl rfl rfl ?_
                                                          refine jv_iconst rfl rfl ?_
                                                          refine jv_istoreK (L2 := [some (.inr (.inr 94)), some (.inl c), some (.inl r), some (.inl a), some (.inl q), some (.inl 0), some (.inl x6_41), some (.inl 1), some (.inl 9), some (.inl 0), none]) rfl rfl rfl ?_
                                                          refine jv_iload rfl rfl rfl ?_
                                                          refine jv_istoreK (L2 := [some (.inr (.inr 94)), some (.inl c), some (.inl r), some (.inl a), some (.inl q), some (.inl 0), some (.inl x6_41), some (.inl 1), some (.inl 9), some (.inl 0), some (.inl 1)]) rfl rfl rfl ?_
                                                          exfalso; omega
                                                      · first
                                                        | (exfalso; omega)
                                                        | skip
                                                          refine jv_bipush rfl rfl ?_
                                                          refine jv_goto rfl rfl ?_
                                                          refine jv_istoreK (L2 := [some (.inr (.inr 94)), some (.inl c), some (.inl r), some (.inl a), some (.inl q), some (.inl 0), some (.inl x6_41), some (.inl 1), some (.inl 29), none, none]) rfl rfl rfl ?_
                                                          refine jv_iconst rfl rfl ?_
                                                          refine jv_istoreK (L2 := [some (.inr (.inr 94)), some (.inl c), some (.inl r), some (.inl a), some (.inl q), some (.inl 0), some (.inl x6_41), some (.inl 1), some (.inl 29), some (.inl 0), none]) rfl rfl rfl ?_
                                                          refine jv_iload rfl rfl rfl ?_
                                                          refine jv_istoreK (L2 := [some (.inr (.inr 94)), some (.inl c), some (.inl r), some (.inl a), some (.inl q), some (.inl 0), some (.inl x6_41), some (.inl 1), some (.inl 29), some (.inl 0), some (.inl 1)]) rfl rfl rfl ?_
                                                          exfalso; omega
                                                  · first
                                                    | (exfalso; omega)
                                                    | skip
                                                      refine jv_iconst rfl rfl ?_
                                                      refine jv_goto rfl rfl ?_
                                                      refine jv_istoreK (L2 := [some (.inr (.inr 94)), some (.inl c), some (.inl r), some (.inl a), some (.inl q), some (.inl 0), some (.inl x6_41), some (.inl 1), some (.inl 5), none, none]) rfl rfl rfl ?_
                                                      refine jv_iconst rfl rfl ?_
                                                      refine jv_istoreK (L2 := [some (.inr (.inr 94)), some (.inl c), some (.inl r), some (.inl a), some (.inl q), some (.inl 0), some (.inl x6_41), some (.inl 1), some (.inl 5), some (.inl 0), none]) rfl rfl rfl ?_
                                                      refine jv_iload rfl rfl rfl ?_
                                                      refine jv_istoreK (L2 := [some (.inr (.inr 94)), some (.inl c), some (.inl r), some (.inl a), some (.inl q), some (.inl 0), some (.inl x6_41), some (.inl 1), some (.inl 5), some (.inl 0), some (.inl 1)]) rfl rfl rfl ?_
                                                      exfalso; omega
                                  · first
                                    | (exfalso; omega)
                                    | skip
                                      refine jv_bipush rfl rfl ?_
                                      refine jv_goto rfl rfl ?_
                                      refine jv_iload_n rfl rfl rfl ?_
                                      refine jv_iadd rfl rfl ⟨by omega, by omega⟩ ?_
                                      refine jv_istore (fun x => [some (.inr (.inr 94)), some (.inl c), some (.inl r), some (.inl a), some (.inl q), some (.inl 0), some (.inl x), none, none, none, none]) rfl rfl (fun _ => rfl) (fun x6_41_1 ex6_41_1 => ?_)
                                      refine jv_iload rfl rfl rfl ?_
                                      refine jv_if_eq rfl rfl rfl (fun c43_1 => ?_) (fun c43_1 => ?_)
                                      · first
                                        | (exfalso; omega)
                                        | skip
                                          refine jv_iconst rfl rfl ?_
                                          refine jv_goto rfl rfl ?_
                                          refine jv_istoreK (L2 := [some (.inr (.inr 94)), some (.inl c), some (.inl r), some (.inl a), some (.inl q), some (.inl 0), some (.inl x6_41_1), some (.inl 1), none, none, none]) rfl rfl rfl ?_
                                          refine jv_iload rfl rfl rfl ?_
                                          refine jv_if_eq rfl rfl rfl (fun c52_3 => ?_) (fun c52_3 => ?_)
                                          · first
                                            | (exfalso; omega)
                                            | skip
                                              refine jv_iconst rfl rfl ?_
                                              refine jv_goto rfl rfl ?_
                                              refine jv_istoreK (L2 := [some (.inr (.inr 94)), some (.inl c), some (.inl r), some (.inl a), some (.inl q), some (.inl 0), some (.inl x6_41_1), some (.inl 1), some (.inl 5), none, none]) rfl rfl rfl ?_
                                              refine jv_iconst rfl rfl ?_
                                              refine jv_istoreK (L2 := [some (.inr (.inr 94)), some (.inl c), some (.inl r), some (.inl a), some (.inl q), some (.inl 0), some (.inl x6_41_1), some (.inl 1), some (.inl 5), some (.inl 0), none]) rfl rfl rfl ?_
                                              refine jv_iload rfl rfl rfl ?_
                                              refine jv_istoreK (L2 := [some (.inr (.inr 94)), some (.inl c), some (.inl r), some (.inl a), some (.inl q), some (.inl 0), some (.inl x6_41_1), some (.inl 1), some (.inl 5), some (.inl 0), some (.inl 1)]) rfl rfl rfl ?_
                                              exfalso; omega
                                          · first
                                            | (exfalso; omega)
                                            | skip
                                              refine jv_iload rfl rfl rfl ?_
                                              refine jv_iconst rfl rfl ?_
                                              refine jv_icmp_ne rfl rfl rfl (fun c55_3 => ?_) (fun c55_3 => ?_)
                                              · first
                                                | (exfalso; omega)
                                                | skip
                                                  refine jv_iload rfl rfl rfl ?_
                                                  refine jv_iconst rfl rfl ?_
                                                  refine jv_icmp_ne rfl rfl rfl (fun c60_3 => ?_) (fun c60_3 => ?_)
                                                  · first
                                                    | (exfalso; omega)
                                                    | skip
                                                      refine jv_bipush rfl rfl ?_
                                                      refine jv_istoreK (L2 := [some (.inr (.inr 94)), some (.inl c), some (.inl r), some (.inl a), some (.inl q), some (.inl 0), some (.inl x6_41_1), some (.inl 1), some (.inl 9), none, none]) rfl rfl rfl ?_
                                                      refine jv_iconst rfl rfl ?_
                                                      refine jv_istoreK (L2 := [some (.inr (.inr 94)), some (.inl c), some (.inl r), some (.inl a), some (.inl q), some (.inl 0), some (.inl x6_41_1), some (.inl 1), some (.inl 9), some (.inl 0), none]) rfl rfl rfl ?_
                                                      refine jv_iload rfl rfl rfl ?_
                                                      refine jv_istoreK (L2 := [some (.inr (.inr 94)), some (.inl c), some (.inl r), some (.inl a), some (.inl q), some (.inl 0), some (.inl x6_41_1), some (.inl 1), some (.inl 9), some (.inl 0), some (.inl 1)]) rfl rfl rfl ?_
                                                      exfalso; omega
                                                  · first
                                                    | (exfalso; omega)
                                                    | skip
                                                      refine jv_bipush rfl rfl ?_
                                                      refine jv_goto rfl rfl ?_
                                                      refine jv_istoreK (L2 := [some (.inr (.inr 94)), some (.inl c), some (.inl r), some (.inl a), some (.inl q), some (.inl 0), some (.inl x6_41_1), some (.inl 1), some (.inl 29), none, none]) rfl rfl rfl ?_
                                                      refine jv_iconst rfl rfl ?_
                                                      refine jv_istoreK (L2 := [some (.inr (.inr 94)), some (.inl c), some (.inl r), some (.inl a), some (.inl q), some (.inl 0), some (.inl x6_41_1), some (.inl 1), some (.inl 29), some (.inl 0), none]) rfl rfl rfl ?_
                                                      refine jv_iload rfl rfl rfl ?_
                                                      refine jv_istoreK (L2 := [some (.inr (.inr 94)), some (.inl c), some (.inl r), some (.inl a), some (.inl q), some (.inl 0), some (.inl x6_41_1), some (.inl 1), some (.inl 29), some (.inl 0), some (.inl 1)]) rfl rfl rfl ?_
                                                      exfalso; omega
                                              · first
                                                | (exfalso; omega)
                                                | skip
                                                  refine jv_iconst rfl rfl ?_
                                                  refine jv_goto rfl rfl ?_
                                                  refine jv_istoreK (L2 := [some (.inr (.inr 94)), some (.inl c), some (.inl r), some (.inl a), some (.inl q), some (.inl 0), some (.inl x6_41_1), some (.inl 1), some (.inl 5), none, none]) rfl rfl rfl ?_
                                                  refine jv_iconst rfl rfl ?_
                                                  refine jv_istoreK (L2 := [some (.inr (.inr 94)), some (.inl c), some (.inl r), some (.inl a), some (.inl q), some (.inl 0), some (.inl x6_41_1), some (.inl 1), some (.inl 5), some (.inl 0), none]) rfl rfl rfl ?_
                                                  refine jv_iload rfl rfl rfl ?_
                                                  refine jv_istoreK (L2 := [some (.inr (.inr 94)), some (.inl c), some (.inl r), some (.inl a), some (.inl q), some (.inl 0), some (.inl x6_41_1), some (.inl 1), some (.inl 5), some (.inl 0), some (.inl 1)]) rfl rfl rfl ?_
                                                  exfalso; omega
                                      · first
                                        | (exfalso; omega)
                                        | skip
                                          refine jv_iload rfl rfl rfl ?_
                                          refine jv_iconst rfl rfl ?_
                                          refine jv_icmp_ne rfl rfl rfl (fun c46_1 => ?_) (fun c46_1 => ?_)
                                          · first
                                            | (exfalso; omega)
                                            | skip
                                              refine jv_iconst rfl rfl ?_
                                              refine jv_istoreK (L2 := [some (.inr (.inr 94)), some (.inl c), some (.inl r), some (.inl a), some (.inl q), some (.inl 0), some (.inl x6_41_1), some (.inl 0), none, none, none]) rfl rfl rfl ?_
                                              refine jv_iload rfl rfl rfl ?_
                                              refine jv_if_eq rfl rfl rfl (fun c52_4 => ?_) (fun c52_4 => ?_)
                                              · first
                                                | (exfalso; omega)
                                                | skip
                                                  refine jv_iconst rfl rfl ?_
                                                  refine jv_goto rfl rfl ?_
                                                  refine jv_istoreK (L2 := [some (.inr (.inr 94)), some (.inl c), some (.inl r), some (.inl a), some (.inl q), some (.inl 0), some (.inl x6_41_1), some (.inl 0), some (.inl 5), none, none]) rfl rfl rfl ?_
                                                  refine jv_iconst rfl rfl ?_
                                                  refine jv_istoreK (L2 := [some (.inr (.inr 94)), some (.inl c), some (.inl r), some (.inl a), some (.inl q), some (.inl 0), some (.inl x6_41_1), some (.inl 0), some (.inl 5), some (.inl 0), none]) rfl rfl rfl ?_
                                                  refine jv_iload rfl rfl rfl ?_
                                                  refine jv_istoreK (L2 := [some (.inr (.inr 94)), some (.inl c), some (.inl r), some (.inl a), some (.inl q), some (.inl 0), some (.inl x6_41_1), some (.inl 0), some (.inl 5), some (.inl 0), some (.inl 0)]) rfl rfl rfl ?_
                                                  exfalso; omega
                                              · first
                                                | (exfalso; omega)
                                                | skip
                                                  refine jv_iload rfl rfl rfl ?_
                                                  refine jv_iconst rfl rfl ?_
                                                  refine jv_icmp_ne rfl rfl rfl (fun c55_4 => ?_) (fun c55_4 => ?_)
                                                  · first
                                                    | (exfalso; omega)
                                                    | skip
                                                      refine jv_iload rfl rfl rfl ?_
                                                      refine jv_iconst rfl rfl ?_
                                                      refine jv_icmp_ne rfl rfl rfl (fun c60_4 => ?_) (fun c60_4 => ?_)
                                                      · first
                                                        | (exfalso; omega)
                                                        | skip
                                                          refine jv_bipush rfl rfl ?_
                                                          refine jv_istoreK (L2 := [some (.inr (.inr 94)), some (.inl c), some (.inl r), some (.inl a), some (.inl q), some (.inl 0), some (.inl x6_41_1), some (.inl 0), some (.inl 9), none, none]) rfl rfl rfl ?_
                                                          refine jv_iconst rfl rfl ?_
                                                          refine jv_istoreK (L2 := [some (.inr (.inr 94)), some (.inl c), some (.inl r), some (.inl a), some (.inl q), some (.inl 0), some (.inl x6_41_1), some (.inl 0), some (.inl 9), some (.inl 0), none]) rfl rfl rfl ?_
                                                          refine jv_iload rfl rfl rfl ?_
                                                          refine jv_istoreK (L2 := [some (.inr (.inr 94)), some (.inl c), some (.inl r), some (.inl a), some (.inl q), some (.inl 0), some (.inl x6_41_1), some (.inl 0), some (.inl 9), some (.inl 0), some (.inl 0)]) rfl rfl rfl ?_
                                                          exfalso; omega
                                                      · first
                                                        | (exfalso; omega)
                                                        | skip
                                                          refine jv_bipush rfl rfl ?_
                                                          refine jv_goto rfl rfl ?_
                                                          refine jv_istoreK (L2 := [some (.inr (.inr 94)), some (.inl c), some (.inl r), some (.inl a), some (.inl q), some (.inl 0), some (.inl x6_41_1), some (.inl 0), some (.inl 29), none, none]) rfl rfl rfl ?_
                                                          refine jv_iconst rfl rfl ?_
                                                          refine jv_istoreK (L2 := [some (.inr (.inr 94)), some (.inl c), some (.inl r), some (.inl a), some (.inl q), some (.inl 0), some (.inl x6_41_1), some (.inl 0), some (.inl 29), some (.inl 0), none]) rfl rfl rfl ?_
                                                          refine jv_iload rfl rfl rfl ?_
                                                          refine jv_istoreK (L2 := [some (.inr (.inr 94)), some (.inl c), some (.inl r), some (.inl a), some (.inl q), some (.inl 0), some (.inl x6_41_1), some (.inl 0), some (.inl 29), some (.inl 0), some (.inl 0)]) rfl rfl rfl ?_
                                                          exfalso; omega
                                                  · first
                                                    | (exfalso; omega)
                                                    | skip
                                                      refine jv_iconst rfl rfl ?_
                                                      refine jv_goto rfl rfl ?_
                                                      refine jv_istoreK (L2 := [some (.inr (.inr 94)), some (.inl c), some (.inl r), some (.inl a), some (.inl q), some (.inl 0), some (.inl x6_41_1), some (.inl 0), some (.inl 5), none, none]) rfl rfl rfl ?_
                                                      refine jv_iconst rfl rfl ?_
                                                      refine jv_istoreK (L2 := [some (.inr (.inr 94)), some (.inl c), some (.inl r), some (.inl a), some (.inl q), some (.inl 0), some (.inl x6_41_1), some (.inl 0), some (.inl 5), some (.inl 0), none]) rfl rfl rfl ?_
                                                      refine jv_iload rfl rfl rfl ?_
                                                      refine jv_istoreK (L2 := [some (.inr (.inr 94)), some (.inl c), some (.inl r), some (.inl a), some (.inl q), some (.inl 0), some (.inl x6_41_1), some (.inl 0), some (.inl 5), some (.inl 0), some (.inl 0)]) rfl rfl rfl ?_
                                                      exfalso; omega
                                          · first
                                            | (exfalso; omega)
                                            | skip
                                              refine jv_iconst rfl rfl ?_
                                              refine jv_goto rfl rfl ?_
                                              refine jv_istoreK (L2 := [some (.inr (.inr 94)), some (.inl c), some (.inl r), some (.inl a), some (.inl q), some (.inl 0), some (.inl x6_41_1), some (.inl 1), none, none, none]) rfl rfl rfl ?_
                                              refine jv_iload rfl rfl rfl ?_
                                              refine jv_if_eq rfl rfl rfl (fun c52_5 => ?_) (fun c52_5 => ?_)
                                              · first
                                                | (exfalso; omega)
                                                | skip
                                                  refine jv_iconst rfl rfl ?_
                                                  refine jv_goto rfl rfl ?_
                                                  refine jv_istoreK (L2 := [some (.inr (.inr 94)), some (.inl c), some (.inl r), some (.inl a), some (.inl q), some (.inl 0), some (.inl x6_41_1), some (.inl 1), some (.inl 5), none, none]) rfl rfl rfl ?_
                                                  refine jv_iconst rfl rfl ?_
                                                  refine jv_istoreK (L2 := [some (.inr (.inr 94)), some (.inl c), some (.inl r), some (.inl a), some (.inl q), some (.inl 0), some (.inl x6_41_1), some (.inl 1), some (.inl 5), some (.inl 0), none]) rfl rfl rfl ?_
                                                  refine jv_iload rfl rfl rfl ?_
                                                  refine jv_istoreK (L2 := [some (.inr (.inr 94)), some (.inl c), some (.inl r), some (.inl a), some (.inl q), some (.inl 0), some (.inl x6_41_1), some (.inl 1), some (.inl 5), some (.inl 0), some (.inl 1)]) rfl rfl rfl ?_
                                                  exfalso; omega
                                              · first
                                                | (exfalso; omega)
                                                | skip
                                                  refine jv_iload rfl rfl rfl ?_
                                                  refine jv_iconst rfl rfl ?_
                                                  refine jv_icmp_ne rfl rfl rfl (fun c55_5 => ?_) (fun c55_5 => ?_)
                                                  · first
                                                    | (exfalso; omega)
                                                    | skip
                                                      refine jv_iload rfl rfl rfl ?_
                                                      refine jv_iconst rfl rfl ?_
                                                      refine jv_icmp_ne rfl rfl rfl (fun c60_5 => ?_) (fun c60_5 => ?_)
                                                      · first
                                                        | (exfalso; omega)
                                                        | skip
                                                          refine jv_bipush rfl rfl ?_
                                                          refine jv_istoreK (L2 := [some (.inr (.inr 94)), some (.inl c), some (.inl r), some (.inl a), some (.inl q), some (.inl 0), some (.inl x6_41_1), some (.inl 1), some (.inl 9), none, none]) rfl rfl rfl ?_
                                                          refine jv_iconst rfl rfl ?_
                                                          refine jv_istoreK (L2 := [some (.inr (.inr 94)), some (.inl c), some (.inl r), some (.inl a), some (.inl q), some (.inl 0), some (.inl x6_41_1), some (.inl 1), some (.inl 9), some (.inl 0), none]) rfl rfl rfl ?_
                                                          refine jv_iload rfl rfl rfl ?_
                                                          refine jv_istoreK (L2 := [some (.inr (.inr 94)), some (.inl c), some (.inl r), some (.inl a), some (.inl q), some (.inl 0), some (.inl x6_41_1), some (.inl 1), some (.inl 9), some (.inl 0), some (.inl 1)]) rfl rfl rfl ?_
                                                          exfalso; omega
                                                      · first
                                                        | (exfalso; omega)
                                                        | skip
                                                          refine jv_bipush rfl rfl ?_
                                                          refine jv_goto rfl rfl ?_
                                                          refine jv_istoreK (L2 := [some (.inr (.inr 94)), some (.inl c), some (.inl r), some (.inl a), some (.inl q), some (.inl 0), some (.inl x6_41_1), some (.inl 1), some (.inl 29), none, none]) rfl rfl rfl ?_
                                                          refine jv_iconst rfl rfl ?_
                                                          refine jv_istoreK (L2 := [some (.inr (.inr 94)), some (.inl c), some (.inl r), some (.inl a), some (.inl q), some (.inl 0), some (.inl x6_41_1), some (.inl 1), some (.inl 29), some (.inl 0), none]) rfl rfl rfl ?_
                                                          refine jv_iload rfl rfl rfl ?_
                                                          refine jv_istoreK (L2 := [some (.inr (.inr 94)), some (.inl c), some (.inl r), some (.inl a), some (.inl q), some (.inl 0), some (.inl x6_41_1), some (.inl 1), some (.inl 29), some (.inl 0), some (.inl 1)]) rfl rfl rfl ?_
                                                          exfalso; omega
                                                  · first
                                                    | (exfalso; omega)
                                                    | skip
                                                      refine jv_iconst rfl rfl ?_
                                                      refine jv_goto rfl rfl ?_
                                                      refine jv_istoreK (L2 := [some (.inr (.inr 94)), some (.inl c), some (.inl r), some (.inl a), some (.inl q), some (.inl 0), some (.inl x6_41_1), some (.inl 1), some (.inl 5), none, none]) rfl rfl rfl ?_
                                                      refine jv_iconst rfl rfl ?_
                                                      refine jv_istoreK (L2 := [some (.inr (.inr 94)), some (.inl c), some (.inl r), some (.inl a), some (.inl q), some (.inl 0), some (.inl x6_41_1), some (.inl 1), some (.inl 5), some (.inl 0), none]) rfl rfl rfl ?_
                                                      refine jv_iload rfl rfl rfl ?_
                                                      refine jv_istoreK (L2 := [some (.inr (.inr 94)), some (.inl c), some (.inl r), some (.inl a), some (.inl q), some (.inl 0), some (.inl x6_41_1), some (.inl 1), some (.inl 5), some (.inl 0), some (.inl 1)]) rfl rfl rfl ?_
                                                      exfalso; omega
                              · first
                                | (exfalso; omega)
                                | skip
                                  refine jv_bipush rfl rfl ?_
                                  refine jv_goto rfl rfl ?_
                                  refine jv_iload_n rfl rfl rfl ?_
                                  refine jv_iadd rfl rfl ⟨by omega, by omega⟩ ?_
                                  refine jv_istore (fun x => [some (.inr (.inr 94)), some (.inl c), some (.inl r), some (.inl a), some (.inl q), some (.inl 0), some (.inl x), none, none, none, none]) rfl rfl (fun _ => rfl) (fun x6_41_2 ex6_41_2 => ?_)
                                  refine jv_iload rfl rfl rfl ?_
                                  refine jv_if_eq rfl rfl rfl (fun c43_2 => ?_) (fun c43_2 => ?_)
                                  · first
                                    | (exfalso; omega)
                                    | skip
                                      refine jv_iconst rfl rfl ?_
                                      refine jv_goto rfl rfl ?_
                                      refine jv_istoreK (L2 := [some (.inr (.inr 94)), some (.inl c), some (.inl r), some (.inl a), some (.inl q), some (.inl 0), some (.inl x6_41_2), some (.inl 1), none, none, none]) rfl rfl rfl ?_
                                      refine jv_iload rfl rfl rfl ?_
                                      refine jv_if_eq rfl rfl rfl (fun c52_6 => ?_) (fun c52_6 => ?_)
                                      · first
                                        | (exfalso; omega)
                                        | skip
                                          refine jv_iconst rfl rfl ?_
                                          refine jv_goto rfl rfl ?_
                                          refine jv_istoreK (L2 := [some (.inr (.inr 94)), some (.inl c), some (.inl r), some (.inl a), some (.inl q), some (.inl 0), some (.inl x6_41_2), some (.inl 1), some (.inl 5), none, none]) rfl rfl rfl ?_
                                          refine jv_iconst rfl rfl ?_
                                          refine jv_istoreK (L2 := [some (.inr (.inr 94)), some (.inl c), some (.inl r), some (.inl a), some (.inl q), some (.inl 0), some (.inl x6_41_2), some (.inl 1), some (.inl 5), some (.inl 0), none]) rfl rfl rfl ?_
                                          refine jv_iload rfl rfl rfl ?_
                                          refine jv_istoreK (L2 := [some (.inr (.inr 94)), some (.inl c), some (.inl r), some (.inl a), some (.inl q), some (.inl 0), some (.inl x6_41_2), some (.inl 1), some (.inl 5), some (.inl 0), some (.inl 1)]) rfl rfl rfl ?_
                                          exfalso; omega
                                      · first
                                        | (exfalso; omega)
                                        | skip
                                          refine jv_iload rfl rfl rfl ?_
                                          refine jv_iconst rfl rfl ?_
                                          refine jv_icmp_ne rfl rfl rfl (fun c55_6 => ?_) (fun c55_6 => ?_)
                                          · first
                                            | (exfalso; omega)
                                            | skip
                                              refine jv_iload rfl rfl rfl ?_
                                              refine jv_iconst rfl rfl ?_
                                              refine jv_icmp_ne rfl rfl rfl (fun c60_6 => ?_) (fun c60_6 => ?_)
                                              · first
                                                | (exfalso; omega)
                                                | skip
                                                  refine jv_bipush rfl rfl ?_
                                                  refine jv_istoreK (L2 := [some (.inr (.inr 94)), some (.inl c), some (.inl r), some (.inl a), some (.inl q), some (.inl 0), some (.inl x6_41_2), some (.inl 1), some (.inl 9), none, none]) rfl rfl rfl ?_
                                                  refine jv_iconst rfl rfl ?_
                                                  refine jv_istoreK (L2 := [some (.inr (.inr 94)), some (.inl c), some (.inl r), some (.inl a), some (.inl q), some (.inl 0), some (.inl x6_41_2), some (.inl 1), some (.inl 9), some (.inl 0), none]) rfl rfl rfl ?_
                                                  refine jv_iload rfl rfl rfl ?_
                                                  refine jv_istoreK (L2 := [some (.inr (.inr 94)), some (.inl c), some (.inl r), some (.inl a), some (.inl q), some (.inl 0), some (.inl x6_41_2), some (.inl 1), some (.inl 9), some (.inl 0), some (.inl 1)]) rfl rfl rfl ?_
                                                  exfalso; omega
                                              · first
                                                | (exfalso; omega)
                                                | skip
                                                  refine jv_bipush rfl rfl ?_
                                                  refine jv_goto rfl rfl ?_
                                                  refine jv_istoreK (L2 := [some (.inr (.inr 94)), some (.inl c), some (.inl r), some (.inl a), some (.inl q), some (.inl 0), some (.inl x6_41_2), some (.inl 1), some (.inl 29), none, none]) rfl rfl rfl ?_
                                                  refine jv_iconst rfl rfl ?_
                                                  refine jv_istoreK (L2 := [some (.inr (.inr 94)), some (.inl c), some (.inl r), some (.inl a), some (.inl q), some (.inl 0), some (.inl x6_41_2), some (.inl 1), some (.inl 29), some (.inl 0), none]) rfl rfl rfl ?_
                                                  refine jv_iload rfl rfl rfl ?_
                                                  refine jv_istoreK (L2 := [some (.inr (.inr 94)), some (.inl c), some (.inl r), some (.inl a), some (.inl q), some (.inl 0), some (.inl x6_41_2), some (.inl 1), some (.inl 29), some (.inl 0), some (.inl 1)]) rfl rfl rfl ?_
                                                  exfalso; omega
                                          · first
                                            | (exfalso; omega)
                                            | skip
                                              refine jv_iconst rfl rfl ?_
                                              refine jv_goto rfl rfl ?_
                                              refine jv_istoreK (L2 := [some (.inr (.inr 94)), some (.inl c), some (.inl r), some (.inl a), some (.inl q), some (.inl 0), some (.inl x6_41_2), some (.inl 1), some (.inl 5), none, none]) rfl rfl rfl ?_
                                              refine jv_iconst rfl rfl ?_
                                              refine jv_istoreK (L2 := [some (.inr (.inr 94)), some (.inl c), some (.inl r), some (.inl a), some (.inl q), some (.inl 0), some (.inl x6_41_2), some (.inl 1), some (.inl 5), some (.inl 0), none]) rfl rfl rfl ?_
                                              refine jv_iload rfl rfl rfl ?_
                                              refine jv_istoreK (L2 := [some (.inr (.inr 94)), some (.inl c), some (.inl r), some (.inl a), some (.inl q), some (.inl 0), some (.inl x6_41_2), some (.inl 1), some (.inl 5), some (.inl 0), some (.inl 1)]) rfl rfl rfl ?_
                                              exfalso; omega
                                  · first
                                    | (exfalso; omega)
                                    | skip
                                      refine jv_iload rfl rfl rfl ?_
                                      refine jv_iconst rfl rfl ?_
                                      refine jv_icmp_ne rfl rfl rfl (fun c46_2 => ?_) (fun c46_2 => ?_)
                                      · first
                                        | (exfalso; omega)
                                        | skip
                                          refine jv_iconst rfl rfl ?_
                                          refine jv_istoreK (L2 := [some (.inr (.inr 94)), some (.inl c), some (.inl r), some (.inl a), some (.inl q), some (.inl 0), some (.inl x6_41_2), some (.inl 0), none, none, none]) rfl rfl rfl ?_
                                          refine jv_iload rfl rfl rfl ?_
                                          refine jv_if_eq rfl rfl rfl (fun c52_7 => ?_) (fun c52_7 => ?_)
                                          · first
                                            | (exfalso; omega)
                                            | skip
                                              refine jv_iconst rfl rfl ?_
                                              refine jv_goto rfl rfl ?_
                                              refine jv_istoreK (L2 := [some (.inr (.inr 94)), some (.inl c), some (.inl r), some (.inl a), some (.inl q), some (.inl 0), some (.inl x6_41_2), some (.inl 0), some (.inl 5), none, none]) rfl rfl rfl ?_
                                              refine jv_iconst rfl rfl ?_
                                              refine jv_istoreK (L2 := [some (.inr (.inr 94)), some (.inl c), some (.inl r), some (.inl a), some (.inl q), some (.inl 0), some (.inl x6_41_2), some (.inl 0), some (.inl 5), some (.inl 0), none]) rfl rfl rfl ?_
                                              refine jv_iload rfl rfl rfl ?_
                                              refine jv_istoreK (L2 := [some (.inr (.inr 94)), some (.inl c), some (.inl r), some (.inl a), some (.inl q), some (.inl 0), some (.inl x6_41_2), some (.inl 0), some (.inl 5), some (.inl 0), some (.inl 0)]) rfl rfl rfl ?_
                                              exfalso; omega
                                          · first
                                            | (exfalso; omega)
                                            | skip
                                              refine jv_iload rfl rfl rfl ?_
                                              refine jv_iconst rfl rfl ?_
                                              refine jv_icmp_ne rfl rfl rfl (fun c55_7 => ?_) (fun c55_7 => ?_)
                                              · first
                                                | (exfalso; omega)
                                                | skip
                                                  refine jv_iload rfl rfl rfl ?_
                                                  refine jv_iconst rfl rfl ?_
                                                  refine jv_icmp_ne rfl rfl rfl (fun c60_7 => ?_) (fun c60_7 => ?_)
                                                  · first
                                                    | (exfalso; omega)
                                                    | skip
                                                      refine jv_bipush rfl rfl ?_
                                                      refine jv_istoreK (L2 := [some (.inr (.inr 94)), some (.inl c), some (.inl r), some (.inl a), some (.inl q), some (.inl 0), some (.inl x6_41_2), some (.inl 0), some (.inl 9), none, none]) rfl rfl rfl ?_
                                                      refine jv_iconst rfl rfl ?_
                                                      refine jv_istoreK (L2 := [some (.inr (.inr 94)), some (.inl c), some (.inl r), some (.inl a), some (.inl q), some (.inl 0), some (.inl x6_41_2), some (.inl 0), some (.inl 9), some (.inl 0), none]) rfl rfl rfl ?_
                                                      refine jv_iload rfl rfl rfl ?_
                                                      refine jv_istoreK (L2 := [some (.inr (.inr 94)), some (.inl c), some (.inl r), some (.inl a), some (.inl q), some (.inl 0), some (.inl x6_41_2), some (.inl 0), some (.inl 9), some (.inl 0), some (.inl 0)]) rfl rfl rfl ?_
                                                      exfalso; omega
                                                  · first
                                                    | (exfalso; omega)
                                                    | skip
                                                      refine jv_bipush rfl rfl ?_
                                                      refine jv_goto rfl rfl ?_
                                                      refine jv_istoreK (L2 := [some (.inr (.inr 94)), some (.inl c), some (.inl r), some (.inl a), some (.inl q), some (.inl 0), some (.inl x6_41_2), some (.inl 0), some (.inl 29), none, none]) rfl rfl rfl ?_
                                                      refine jv_iconst rfl rfl ?_
                                                      refine jv_istoreK (L2 := [some (.inr (.inr 94)), some (.inl c), some (.inl r), some (.inl a), some (.inl q), some (.inl 0), some (.inl x6_41_2), some (.inl 0), some (.inl 29), some (.inl 0), none]) rfl rfl rfl ?_
                                                      refine jv_iload rfl rfl rfl ?_
                                                      refine jv_istoreK (L2 := [some (.inr (.inr 94)), some (.inl c), some (.inl r), some (.inl a), some (.inl q), some (.inl 0), some (.inl x6_41_2), some (.inl 0), some (.inl 29), some (.inl 0), some (.inl 0)]) rfl rfl rfl ?_
                                                      exfalso; omega
                                              · first
                                                | (exfalso; omega)
                                                | skip
                                                  refine jv_iconst rfl rfl ?_
                                                  refine jv_goto rfl rfl ?_
                                                  refine jv_istoreK (L2 := [some (.inr (.inr 94)), some (.inl c), some (.inl r), some (.inl a), some (.inl q), some (.inl 0), some (.inl x6_41_2), some (.inl 0), some (.inl 5), none, none]) rfl rfl rfl ?_
                                                  refine jv_iconst rfl rfl ?_
                                                  refine jv_istoreK (L2 := [some (.inr (.inr 94)), some (.inl c), some (.inl r), some (.inl a), some (.inl q), some (.inl 0), some (.inl x6_41_2), some (.inl 0), some (.inl 5), some (.inl 0), none]) rfl rfl rfl ?_
                                                  refine jv_iload rfl rfl rfl ?_
                                                  refine jv_istoreK (L2 := [some (.inr (.inr 94)), some (.inl c), some (.inl r), some (.inl a), some (.inl q), some (.inl 0), some (.inl x6_41_2), some (.inl 0), some (.inl 5), some (.inl 0), some (.inl 0)]) rfl rfl rfl ?_
                                                  exfalso; omega
                                      · first
                                        | (exfalso; omega)
                                        | skip
                                          refine jv_iconst rfl rfl ?_
                                          refine jv_goto rfl rfl ?_
                                          refine jv_istoreK (L2 := [some (.inr (.inr 94)), some (.inl c), some (.inl r), some (.inl a), some (.inl q), some (.inl 0), some (.inl x6_41_2), some (.inl 1), none, none, none]) rfl rfl rfl ?_
                                          refine jv_iload rfl rfl rfl ?_
                                          refine jv_if_eq rfl rfl rfl (fun c52_8 => ?_) (fun c52_8 => ?_)
                                          · first
                                            | (exfalso; omega)
                                            | skip
                                              refine jv_iconst rfl rfl ?_
                                              refine jv_goto rfl rfl ?_
                                              refine jv_istoreK (L2 := [some (.inr (.inr 94)), some (.inl c), some (.inl r), some (.inl a), some (.inl q), some (.inl 0), some (.inl x6_41_2), some (.inl 1), some (.inl 5), none, none]) rfl rfl rfl ?_
                                              refine jv_iconst rfl rfl ?_
                                              refine jv_istoreK (L2 := [some (.inr (.inr 94)), some (.inl c), some (.inl r), some (.inl a), some (.inl q), some (.inl 0), some (.inl x6_41_2), some (.inl 1), some (.inl 5), some (.inl 0), none]) rfl rfl rfl ?_
                                              refine jv_iload rfl rfl rfl ?_
                                              refine jv_istoreK (L2 := [some (.inr (.inr 94)), some (.inl c), some (.inl r), some (.inl a), some (.inl q), some (.inl 0), some (.inl x6_41_2), some (.inl 1), some (.inl 5), some (.inl 0), some (.inl 1)]) rfl rfl rfl ?_
                                              exfalso; omega
                                          · first
                                            | (exfalso; omega)
                                            | skip
                                              refine jv_iload rfl rfl rfl ?_
                                              refine jv_iconst rfl rfl ?_
                                              refine jv_icmp_ne rfl rfl rfl (fun c55_8 => ?_) (fun c55_8 => ?_)
                                              · first
                                                | (exfalso; omega)
                                                | skip
                                                  refine jv_iload rfl rfl rfl ?_
                                                  refine jv_iconst rfl rfl ?_
                                                  refine jv_icmp_ne rfl rfl rfl (fun c60_8 => ?_) (fun c60_8 => ?_)
                                                  · first
                                                    | (exfalso; omega)
                                                    | skip
                                                      refine jv_bipush rfl rfl ?_
                                                      refine jv_istoreK (L2 := [some (.inr (.inr 94)), some (.inl c), some (.inl r), some (.inl a), some (.inl q), some (.inl 0), some (.inl x6_41_2), some (.inl 1), some (.inl 9), none, none]) rfl rfl rfl ?_
                                                      refine jv_iconst rfl rfl ?_
                                                      refine jv_istoreK (L2 := [some (.inr (.inr 94)), some (.inl c), some (.inl r), some (.inl a), some (.inl q), some (.inl 0), some (.inl x6_41_2), some (.inl 1), some (.inl 9), some (.inl 0), none]) rfl rfl rfl ?_
                                                      refine jv_iload rfl rfl rfl ?_
                                                      refine jv_istoreK (L2 := [some (.inr (.inr 94)), some (.inl c), some (.inl r), some (.inl a), some (.inl q), some (.inl 0), some (.inl x6_41_2), some (.inl 1), some (.inl 9), some (.inl 0), some (.inl 1)]) rfl rfl rfl ?_
                                                      exfalso; omega
                                                  · first
                                                    | (exfalso; omega)
                                                    | skip
                                                      refine jv_bipush rfl rfl ?_
                                                      refine jv_goto rfl rfl ?_
                                                      refine jv_istoreK (L2 := [some (.inr (.inr 94)), some (.inl c), some (.inl r), some (.inl a), some (.inl q), some (.inl 0), some (.inl x6_41_2), some (.inl 1), some (.inl 29), none, none]) rfl rfl rfl ?_
                                                      refine jv_iconst rfl rfl ?_
                                                      refine jv_istoreK (L2 := [some (.inr (.inr 94)), some (.inl c), some (.inl r), some (.inl a), some (.inl q), some (.inl 0), some (.inl x6_41_2), some (.inl 1), some (.inl 29), some (.inl 0), none]) rfl rfl rfl ?_
                                                      refine jv_iload rfl rfl rfl ?_
                                                      refine jv_istoreK (L2 := [some (.inr (.inr 94)), some (.inl c), some (.inl r), some (.inl a), some (.inl q), some (.inl 0), some (.inl x6_41_2), some (.inl 1), some (.inl 29), some (.inl 0), some (.inl 1)]) rfl rfl rfl ?_
                                                      exfalso; omega
                                              · first
                                                | (exfalso; omega)
                                                | skip
                                                  refine jv_iconst rfl rfl ?_
                                                  refine jv_goto rfl rfl ?_
                                                  refine jv_istoreK (L2 := [some (.inr (.inr 94)), some (.inl c), some (.inl r), some (.inl a), some (.inl q), some (.inl 0), some (.inl x6_41_2), some (.inl 1), some (.inl 5), none, none]) rfl rfl rfl ?_
                                                  refine jv_iconst rfl rfl ?_
                                                  refine jv_istoreK (L2 := [some (.inr (.inr 94)), some (.inl c), some (.inl r), some (.inl a), some (.inl q), some (.inl 0), some (.inl x6_41_2), some (.inl 1), some (.inl 5), some (.inl 0), none]) rfl rfl rfl ?_
                                                  refine jv_iload rfl rfl rfl ?_
                                                  refine jv_istoreK (L2 := [some (.inr (.inr 94)), some (.inl c), some (.inl r), some (.inl a), some (.inl q), some (.inl 0), some (.inl x6_41_2), some (.inl 1), some (.inl 5), some (.inl 0), some (.inl 1)]) rfl rfl rfl ?_
                                                  exfalso; omega
                          · first
                            | (exfalso; omega)
                            | skip
                              refine jv_bipush rfl rfl ?_
                              refine jv_goto rfl rfl ?_
                              refine jv_iload_n rfl rfl rfl ?_
                              refine jv_iadd rfl rfl ⟨by omega, by omega⟩ ?_
                              refine jv_istore (fun x => [some (.inr (.inr 94)), some (.inl c), some (.inl r), some (.inl a), some (.inl q), some (.inl 0), some (.inl x), none, none, none, none]) rfl rfl (fun _ => rfl) (fun x6_41_3 ex6_41_3 => ?_)
                              refine jv_iload rfl rfl rfl ?_
                              refine jv_if_eq rfl rfl rfl (fun c43_3 => ?_) (fun c43_3 => ?_)
                              · first
                                | (exfalso; omega)
                                | skip
                                  refine jv_iconst rfl rfl ?_
                                  refine jv_goto rfl rfl ?_
                                  refine jv_istoreK (L2 := [some (.inr (.inr 94)), some (.inl c), some (.inl r), some (.inl a), some (.inl q), some (.inl 0), some (.inl x6_41_3), some (.inl 1), none, none, none]) rfl rfl rfl ?_
                                  refine jv_iload rfl rfl rfl ?_
                                  refine jv_if_eq rfl rfl rfl (fun c52_9 => ?_) (fun c52_9 => ?_)
                                  · first
                                    | (exfalso; omega)
                                    | skip
                                      refine jv_iconst rfl rfl ?_
                                      refine jv_goto rfl rfl ?_
                                      refine jv_istoreK (L2 := [some (.inr (.inr 94)), some (.inl c), some (.inl r), some (.inl a), some (.inl q), some (.inl 0), some (.inl x6_41_3), some (.inl 1), some (.inl 5), none, none]) rfl rfl rfl ?_
                                      refine jv_iconst rfl rfl ?_
                                      refine jv_istoreK (L2 := [some (.inr (.inr 94)), some (.inl c), some (.inl r), some (.inl a), some (.inl q), some (.inl 0), some (.inl x6_41_3), some (.inl 1), some (.inl 5), some (.inl 0), none]) rfl rfl rfl ?_
                                      refine jv_iload rfl rfl rfl ?_
                                      refine jv_istoreK (L2 := [some (.inr (.inr 94)), some (.inl c), some (.inl r), some (.inl a), some (.inl q), some (.inl 0), some (.inl x6_41_3), some (.inl 1), some (.inl 5), some (.inl 0), some (.inl 1)]) rfl rfl rfl ?_
                                      exfalso; omega
                                  · first
                                    | (exfalso; omega)
                                    | skip
                                      refine jv_iload rfl rfl rfl ?_
                                      refine jv_iconst rfl rfl ?_
                                      refine jv_icmp_ne rfl rfl rfl (fun c55_9 => ?_) (fun c55_9 => ?_)
                                      · first
                                        | (exfalso; omega)
                                        | skip
                                          refine jv_iload rfl rfl rfl ?_
                                          refine jv_iconst rfl rfl ?_
                                          refine jv_icmp_ne rfl rfl rfl (fun c60_9 => ?_) (fun c60_9 => ?_)
                                          · first
                                            | (exfalso; omega)
                                            | skip
                                              refine jv_bipush rfl rfl ?_
                                              refine jv_istoreK (L2 := [some (.inr (.inr 94)), some (.inl c), some (.inl r), some (.inl a), some (.inl q), some (.inl 0), some (.inl x6_41_3), some (.inl 1), some (.inl 9), none, none]) rfl rfl rfl ?_
                                              refine jv_iconst rfl rfl ?_
                                              refine jv_istoreK (L2 := [some (.inr (.inr 94)), some (.inl c), some (.inl r), some (.inl a), some (.inl q), some (.inl 0), some (.inl x6_41_3), some (.inl 1), some (.inl 9), some (.inl 0), none]) rfl rfl rfl ?_
                                              refine jv_iload rfl rfl rfl ?_
                                              refine jv_istoreK (L2 := [some (.inr (.inr 94)), some (.inl c), some (.inl r), some (.inl a), some (.inl q), some (.inl 0), some (.inl x6_41_3), some (.inl 1), some (.inl 9), some (.inl 0), some (.inl 1)]) rfl rfl rfl ?_
                                              exfalso; omega
                                          · first
                                            | (exfalso; omega)
                                            | skip
                                              refine jv_bipush rfl rfl ?_
                                              refine jv_goto rfl rfl ?_
                                              refine jv_istoreK (L2 := [some (.inr (.inr 94)), some (.inl c), some (.inl r), some (.inl a), some (.inl q), some (.inl 0), some (.inl x6_41_3), some (.inl 1), some (.inl 29), none, none]) rfl rfl rfl ?_
                                              refine jv_iconst rfl rfl ?_
                                              refine jv_istoreK (L2 := [some (.inr (.inr 94)), some (.inl c), some (.inl r), some (.inl a), some (.inl q), some (.inl 0), some (.inl x6_41_3), some (.inl 1), some (.inl 29), some (.inl 0), none]) rfl rfl rfl ?_
                                              refine jv_iload rfl rfl rfl ?_
                                              refine jv_istoreK (L2 := [some (.inr (.inr 94)), some (.inl c), some (.inl r), some (.inl a), some (.inl q), some (.inl 0), some (.inl x6_41_3), some (.inl 1), some (.inl 29), some (.inl 0), some (.inl 1)]) rfl rfl rfl ?_
                                              exfalso; omega
                                      · first
                                        | (exfalso; omega)
                                        | skip
                                          refine jv_iconst rfl rfl ?_
                                          refine jv_goto rfl rfl ?_
                                          refine jv_istoreK (L2 := [some (.inr (.inr 94)), some (.inl c), some (.inl r), some (.inl a), some (.inl q), some (.inl 0), some (.inl x6_41_3), some (.inl 1), some (.inl 5), none, none]) rfl rfl rfl ?_
                                          refine jv_iconst rfl rfl ?_
                                          refine jv_istoreK (L2 := [some (.inr (.inr 94)), some (.inl c), some (.inl r), some (.inl a), some (.inl q), some (.inl 0), some (.inl x6_41_3), some (.inl 1), some (.inl 5), some (.inl 0), none]) rfl rfl rfl ?_
                                          refine jv_iload rfl rfl rfl ?_
                                          refine jv_istoreK (L2 := [some (.inr (.inr 94)), some (.inl c), some (.inl r), some (.inl a), some (.inl q), some (.inl 0), some (.inl x6_41_3), some (.inl 1), some (.inl 5), some (.inl 0), some (.inl 1)]) rfl rfl rfl ?_
                                          exfalso; omega
                              · first
                                | (exfalso; omega)
                                | skip
                                  refine jv_iload rfl rfl rfl ?_
                                  refine jv_iconst rfl rfl ?_
                                  refine jv_icmp_ne rfl rfl rfl (fun c46_3 => ?_) (fun c46_3 => ?_)
                                  · first
                                    | (exfalso; omega)
                                    | skip
                                      refine jv_iconst rfl rfl ?_
                                      refine jv_istoreK (L2 := [some (.inr (.inr 94)), some (.inl c), some (.inl r), some (.inl a), some (.inl q), some (.inl 0), some (.inl x6_41_3), some (.inl 0), none, none, none]) rfl rfl rfl ?_
                                      refine jv_iload rfl rfl rfl ?_
                                      refine jv_if_eq rfl rfl rfl (fun c52_10 => ?_) (fun c52_10 => ?_)
                                      · first
                                        | (exfalso; omega)
                                        | skip
                                          refine jv_iconst rfl rfl ?_
                                          refine jv_goto rfl rfl ?_
                                          refine jv_istoreK (L2 := [some (.inr (.inr 94)), some (.inl c), some (.inl r), some (.inl a), some (.inl q), some (.inl 0), some (.inl x6_41_3), some (.inl 0), some (.inl 5), none, none]) rfl rfl rfl ?_
                                          refine jv_iconst rfl rfl ?_
                                          refine jv_istoreK (L2 := [some (.inr (.inr 94)), some (.inl c), some (.inl r), some (.inl a), some (.inl q), some (.inl 0), some (.inl x6_41_3), some (.inl 0), some (.inl 5), some (.inl 0), none]) rfl rfl rfl ?_
                                          refine jv_iload rfl rfl rfl ?_
                                          refine jv_istoreK (L2 := [some (.inr (.inr 94)), some (.inl c), some (.inl r), some (.inl a), some (.inl q), some (.inl 0), some (.inl x6_41_3), some (.inl 0), some (.inl 5), some (.inl 0), some (.inl 0)]) rfl rfl rfl ?_
                                          exfalso; omega
                                      · first
                                        | (exfalso; omega)
                                        | skip
                                          refine jv_iload rfl rfl rfl ?_
                                          refine jv_iconst rfl rfl ?_
                                          refine jv_icmp_ne rfl rfl rfl (fun c55_10 => ?_) (fun c55_10 => ?_)
                                          · first
                                            | (exfalso; omega)
                                            | skip
                                              refine jv_iload rfl rfl rfl ?_
                                              refine jv_iconst rfl rfl ?_
                                              refine jv_icmp_ne rfl rfl rfl (fun c60_10 => ?_) (fun c60_10 => ?_)
                                              · first
                                                | (exfalso; omega)
                                                | skip
                                                  refine jv_bipush rfl rfl ?_
                                                  refine jv_istoreK (L2 := [some (.inr (.inr 94)), some (.inl c), some (.inl r), some (.inl a), some (.inl q), some (.inl 0), some (.inl x6_41_3), some (.inl 0), some (.inl 9), none, none]) rfl rfl rfl ?_
                                                  refine jv_iconst rfl rfl ?_
                                                  refine jv_istoreK (L2 := [some (.inr (.inr 94)), some (.inl c), some (.inl r), some (.inl a), some (.inl q), some (.inl 0), some (.inl x6_41_3), some (.inl 0), some (.inl 9), some (.inl 0), none]) rfl rfl rfl ?_
                                                  refine jv_iload rfl rfl rfl ?_
                                                  refine jv_istoreK (L2 := [some (.inr (.inr 94)), some (.inl c), some (.inl r), some (.inl a), some (.inl q), some (.inl 0), some (.inl x6_41_3), some (.inl 0), some (.inl 9), some (.inl 0), some (.inl 0)]) rfl rfl rfl ?_
                                                  exfalso; omega
                                              · first
                                                | (exfalso; omega)
                                                | skip
                                                  refine jv_bipush rfl rfl ?_
                                                  refine jv_goto rfl rfl ?_
                                                  refine jv_istoreK (L2 := [some (.inr (.inr 94)), some (.inl c), some (.inl r), some (.inl a), some (.inl q), some (.inl 0), some (.inl x6_41_3), some (.inl 0), some (.inl 29), none, none]) rfl rfl rfl ?_
                                                  refine jv_iconst rfl rfl ?_
                                                  refine jv_istoreK (L2 := [some (.inr (.inr 94)), some (.inl c), some (.inl r), some (.inl a), some (.inl q), some (.inl 0), some (.inl x6_41_3), some (.inl 0), some (.inl 29), some (.inl 0), none]) rfl rfl rfl ?_
                                                  refine jv_iload rfl rfl rfl ?_
                                                  refine jv_istoreK (L2 := [some (.inr (.inr 94)), some (.inl c), some (.inl r), some (.inl a), some (.inl q), some (.inl 0), some (.inl x6_41_3), some (.inl 0), some (.inl 29), some (.inl 0), some (.inl 0)]) rfl rfl rfl ?_
                                                  exfalso; omega
                                          · first
                                            | (exfalso; omega)
                                            | skip
                                              refine jv_iconst rfl rfl ?_
                                              refine jv_goto rfl rfl ?_
                                              refine jv_istoreK (L2 := [some (.inr (.inr 94)), some (.inl c), some (.inl r), some (.inl a), some (.inl q), some (.inl 0), some (.inl x6_41_3), some (.inl 0), some (.inl 5), none, none]) rfl rfl rfl ?_
                                              refine jv_iconst rfl rfl ?_
                                              refine jv_istoreK (L2 := [some (.inr (.inr 94)), some (.inl c), some (.inl r), some (.inl a), some (.inl q), some (.inl 0), some (.inl x6_41_3), some (.inl 0), some (.inl 5), some (.inl 0), none]) rfl rfl rfl ?_
                                              refine jv_iload rfl rfl rfl ?_
                                              refine jv_istoreK (L2 := [some (.inr (.inr 94)), some (.inl c), some (.inl r), some (.inl a), some (.inl q), some (.inl 0), some (.inl x6_41_3), some (.inl 0), some (.inl 5), some (.inl 0), some (.inl 0)]) rfl rfl rfl ?_
                                              exfalso; omega
                                  · first
                                    | (exfalso; omega)
                                    | skip
                                      refine jv_iconst rfl rfl ?_
                                      refine jv_goto rfl rfl ?_
                                      refine jv_istoreK (L2 := [some (.inr (.inr 94)), some (.inl c), some (.inl r), some (.inl a), some (.inl q), some (.inl 0), some (.inl x6_41_3), some (.inl 1), none, none, none]) rfl rfl rfl ?_
                                      refine jv_iload rfl rfl rfl ?_
                                      refine jv_if_eq rfl rfl rfl (fun c52_11 => ?_) (fun c52_11 => ?_)
                                      · first
                                        | (exfalso; omega)
                                        | skip
                                          refine jv_iconst rfl rfl ?_
                                          refine jv_goto rfl rfl ?_
                                          refine jv_istoreK (L2 := [some (.inr (.inr 94)), some (.inl c), some (.inl r), some (.inl a), some (.inl q), some (.inl 0), some (.inl x6_41_3), some (.inl 1), some (.inl 5), none, none]) rfl rfl rfl ?_
                                          refine jv_iconst rfl rfl ?_
                                          refine jv_istoreK (L2 := [some (.inr (.inr 94)), some (.inl c), some (.inl r), some (.inl a), some (.inl q), some (.inl 0), some (.inl x6_41_3), some (.inl 1), some (.inl 5), some (.inl 0), none]) rfl rfl rfl ?_
                                          refine jv_iload rfl rfl rfl ?_
                                          refine jv_istoreK (L2 := [some (.inr (.inr 94)), some (.inl c), some (.inl r), some (.inl a), some (.inl q), some (.inl 0), some (.inl x6_41_3), some (.inl 1), some (.inl 5), some (.inl 0), some (.inl 1)]) rfl rfl rfl ?_
                                          exfalso; omega
                                      · first
                                        | (exfalso; omega)
                                        | skip
                                          refine jv_iload rfl rfl rfl ?_
                                          refine jv_iconst rfl rfl ?_
                                          refine jv_icmp_ne rfl rfl rfl (fun c55_11 => ?_) (fun c55_11 => ?_)
                                          · first
                                            | (exfalso; omega)
                                            | skip
                                              refine jv_iload rfl rfl rfl ?_
                                              refine jv_iconst rfl rfl ?_
                                              refine jv_icmp_ne rfl rfl rfl (fun c60_11 => ?_) (fun c60_11 => ?_)
                                              · first
                                                | (exfalso; omega)
                                                | skip
                                                  refine jv_bipush rfl rfl ?_
                                                  refine jv_istoreK (L2 := [some (.inr (.inr 94)), some (.inl c), some (.inl r), some (.inl a), some (.inl q), some (.inl 0), some (.inl x6_41_3), some (.inl 1), some (.inl 9), none, none]) rfl rfl rfl ?_
                                                  refine jv_iconst rfl rfl ?_
                                                  refine jv_istoreK (L2 := [some (.inr (.inr 94)), some (.inl c), some (.inl r), some (.inl a), some (.inl q), some (.inl 0), some (.inl x6_41_3), some (.inl 1), some (.inl 9), some (.inl 0), none]) rfl rfl rfl ?_
                                                  refine jv_iload rfl rfl rfl ?_
                                                  refine jv_istoreK (L2 := [some (.inr (.inr 94)), some (.inl c), some (.inl r), some (.inl a), some (.inl q), some (.inl 0), some (.inl x6_41_3), some (.inl 1), some (.inl 9), some (.inl 0), some (.inl 1)]) rfl rfl rfl ?_
                                                  exfalso; omega
                                              · first
                                                | (exfalso; omega)
                                                | skip
                                                  refine jv_bipush rfl rfl ?_
                                                  refine jv_goto rfl rfl ?_
                                                  refine jv_istoreK (L2 := [some (.inr (.inr 94)), some (.inl c), some (.inl r), some (.inl a), some (.inl q), some (.inl 0), some (.inl x6_41_3), some (.inl 1), some (.inl 29), none, none]) rfl rfl rfl ?_
                                                  refine jv_iconst rfl rfl ?_
                                                  refine jv_istoreK (L2 := [some (.inr (.inr 94)), some (.inl c), some (.inl r), some (.inl a), some (.inl q), some (.inl 0), some (.inl x6_41_3), some (.inl 1), some (.inl 29), some (.inl 0), none]) rfl rfl rfl ?_
                                                  refine jv_iload rfl rfl rfl ?_
                                                  refine jv_istoreK (L2 := [some (.inr (.inr 94)), some (.inl c), some (.inl r), some (.inl a), some (.inl q), some (.inl 0), some (.inl x6_41_3), some (.inl 1), some (.inl 29), some (.inl 0), some (.inl 1)]) rfl rfl rfl ?_
                                                  exfalso; omega
                                          · first
                                            | (exfalso; omega)
                                            | skip
                                              refine jv_iconst rfl rfl ?_
                                              refine jv_goto rfl rfl ?_
                                              refine jv_istoreK (L2 := [some (.inr (.inr 94)), some (.inl c), some (.inl r), some (.inl a), some (.inl q), some (.inl 0), some (.inl x6_41_3), some (.inl 1), some (.inl 5), none, none]) rfl rfl rfl ?_
                                              refine jv_iconst rfl rfl ?_
                                              refine jv_istoreK (L2 := [some (.inr (.inr 94)), some (.inl c), some (.inl r), some (.inl a), some (.inl q), some (.inl 0), some (.inl x6_41_3), some (.inl 1), some (.inl 5), some (.inl 0), none]) rfl rfl rfl ?_
                                              refine jv_iload rfl rfl rfl ?_
                                              refine jv_istoreK (L2 := [some (.inr (.inr 94)), some (.inl c), some (.inl r), some (.inl a), some (.inl q), some (.inl 0), some (.inl x6_41_3), some (.inl 1), some (.inl 5), some (.inl 0), some (.inl 1)]) rfl rfl rfl ?_
                                              exfalso; omega
                      · first
                        | (exfalso; omega)
                        | skip
                          show jV _ _ jm_p_X10_fits _ 19 [some (.inr (.inr 94)), some (.inl c), some (.inl r), some (.inl a), some (.inl q), none, none, none, none, none, none] [.inl (-1000012)] ν18_1
                          refine jv_istoreK (L2 := [some (.inr (.inr 94)), some (.inl c), some (.inl r), some (.inl a), some (.inl q), some (.inl (-1000012)), none, none, none, none, none]) rfl rfl rfl ?_
                          refine jv_iload rfl rfl rfl ?_
                          refine jv_if_eqF rfl rfl (by decide) ?_
                          refine jv_iload rfl rfl rfl ?_
                          refine jv_ireturn rfl (Or.inl rfl) ?_
                          exact ⟨jv_one (by omega), by exfalso; omega⟩
                  · first
                    | (exfalso; omega)
                    | skip
                      show jV _ _ jm_p_X10_fits _ 12 [some (.inr (.inr 94)), some (.inl c), some (.inl r), some (.inl a), some (.inl q), none, none, none, none, none, none] [.inl 0] μ
                      refine jv_if_neF rfl rfl (by decide) ?_
                      refine jv_ldc rfl rfl ?_
                      refine jv_ireturn rfl (Or.inl rfl) ?_
                      exact ⟨jv_one (by omega), hI⟩
              · first
                | (exfalso; omega)
                | skip
                  show jV _ _ jm_p_X10_fits _ 6 [some (.inr (.inr 94)), some (.inl c), some (.inl r), some (.inl a), some (.inl q), none, none, none, none, none, none] [.inl 0] μ
                  refine jv_if_eqT rfl rfl (by decide) ?_
                  refine jv_ldc rfl rfl ?_
                  refine jv_ireturn rfl (Or.inl rfl) ?_
                  exact ⟨jv_one (by omega), hI⟩
          · first
            | (exfalso; omega)
            | skip
              show jV _ _ jm_p_X10_fits _ 3 [some (.inr (.inr 94)), some (.inl c), some (.inl r), some (.inl a), some (.inl q), none, none, none, none, none, none] [.inl 0] μ
              refine jv_if_eqT rfl rfl (by decide) ?_
              refine jv_ldc rfl rfl ?_
              refine jv_ireturn rfl (Or.inl rfl) ?_
              exact ⟨jv_one (by omega), hI⟩
