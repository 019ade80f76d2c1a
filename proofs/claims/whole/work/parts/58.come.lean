theorem jrel_part {μ μ2 : jm_M} {t : Int → Int} {c w : Int} (hw : jt_wf t) (hc : 0 ≤ c ∧ c < 6) (hw4 : 0 ≤ w ∧ w < t 0) (hmat : jh_mats μ 7) (hr : jh_rel μ 7 (jt_part t c w)) (f : ∀ u, u ≠ μ 8 w + 1 → μ2 u = μ u) (e : μ2 (μ 8 w + 1) = jm_u1 (μ (μ 8 w + 1)) (t (44 + c)) (μ (μ 8 w + 1) (t (44 + c)) + jt_by t c w (jt_y t c w.toNat))) : jh_rel μ2 7 (jt_part t c (w + 1)) := by
  have w0 := hw.1
  have w1 := hw.2.1
  have wf := (hw.2.2.2.2.2.2.2 c hc.1 hc.2).2.2.1
  have dm : ∀ m, 0 ≤ m → m < 4 → μ 8 m = 7 + 3 ∨ μ 8 m = 7 + 5 ∨ μ 8 m = 7 + 7 ∨ μ 8 m = 7 + 9 := hmat.1
  have d0 := dm w hw4.1 (by omega)
  have inj : ∀ a, 0 ≤ a → a < 4 → μ 8 a = μ 8 w → a = w := fun a a0 a1 q => hmat.2.1 a w a0 a1 hw4.1 (by omega) q
  have o : ∀ j, j < 8 ∨ 32 ≤ j → jt_part t c (w + 1) j = jt_part t c w j := fun j h => by rw [jt_part_out h (by omega), jt_part_out h (by omega)]
  have o0 : ∀ j, j < 8 ∨ 32 ≤ j → jt_part t c w j = t j := fun j h => jt_part_out h (by omega)
  have s := fun j => jt_part_s (t := t) (c := c) (m := w) wf hw4.1 (by omega) j
  obtain ⟨⟨r0, r1, r2, r3⟩, rm, rz, rc⟩ := hr
  have rm' : ∀ m, 0 ≤ m → m < jt_part t c w 0 → μ (μ 8 m) 0 = jt_part t c w (4 + m) ∧ ∀ k, 0 ≤ k → k < 6 → μ (μ 8 m + 1) k = jt_part t c w (8 + 6 * m + k) := rm
  have rz' : ∀ m, jt_part t c w 0 ≤ m → m < 4 → ∀ k, 0 ≤ k → k < 6 → μ (μ 8 m + 1) k = 0 := rz
  have e8 : μ2 8 = μ 8 := f 8 (by omega)
  have e7 : μ2 7 = μ 7 := f 7 (by omega)
  have z0 := o0 0 (by omega)
  have z1 := o0 1 (by omega)
  refine ⟨⟨by rw [e7, o 2 (by omega)]; exact r0, by rw [e7, o 3 (by omega)]; exact r1, by rw [e7, o 0 (by omega)]; exact r2, by rw [e7, o 1 (by omega)]; exact r3⟩, fun a a0 a1 => ?_, fun a a0 a1 k k0 k1 => ?_, fun x x0 x1 => ?_⟩
  · rw [o 0 (by omega)] at a1
    show μ2 (μ2 8 a) 0 = _ ∧ ∀ k, 0 ≤ k → k < 6 → μ2 (μ2 8 a + 1) k = _
    have da := dm a a0 (by omega)
    rw [e8, f (μ 8 a) (by omega), o (4 + a) (by omega)]
    refine ⟨(rm' a a0 a1).1, fun k k0 k1 => ?_⟩
    rw [s]
    by_cases q : a = w
    · rw [q, e]
      have hk := (rm' w hw4.1 (by omega)).2 k k0 k1
      unfold jm_u1
      by_cases qk : k = t (44 + c)
      · rw [if_pos qk, if_pos (by omega), ← qk, hk]
      · rw [if_neg qk, if_neg (by omega)]
        exact hk
    · have ne : ¬ μ 8 a = μ 8 w := fun z => q (inj a a0 (by omega) z)
      rw [f (μ 8 a + 1) (by omega), if_neg (by omega)]
      exact (rm' a a0 a1).2 k k0 k1
  · rw [o 0 (by omega)] at a0
    show μ2 (μ2 8 a + 1) k = 0
    have da := dm a (by omega) a1
    have ne : ¬ μ 8 a = μ 8 w := fun z => by
      have := inj a (by omega) a1 z
      omega
    rw [e8, f (μ 8 a + 1) (by omega)]
    exact rz' a a0 a1 k k0 k1
  · rw [o 1 (by omega)] at x1
    rw [f (7 + 11 + x) (by omega), o (32 + x) (by omega), o (38 + x) (by omega), o (44 + x) (by omega), o (50 + x) (by omega), o (56 + x) (by omega)]
    exact rc x x0 x1
theorem jrel_came {μ μ2 : jm_M} {t : Int → Int} {c : Int} (hw : jt_wf t) (hc : 0 ≤ c ∧ c < t 1) (hmat : jh_mats μ 7) (hr : jh_rel μ 7 (jt_part t c (t 0))) (f : ∀ u, u ≠ 18 + c → μ2 u = μ u) (e : μ2 (18 + c) = jm_u1 (μ (18 + c)) 4 (μ (18 + c) 4 + 1)) : jh_rel μ2 7 (jt_come t c) := by
  have w0 := hw.1
  have w1 := hw.2.1
  have dm : ∀ m, 0 ≤ m → m < 4 → μ 8 m = 7 + 3 ∨ μ 8 m = 7 + 5 ∨ μ 8 m = 7 + 7 ∨ μ 8 m = 7 + 9 := hmat.1
  have o : ∀ j, j ≠ 56 + c → jt_come t c j = jt_part t c (t 0) j := fun j h => if_neg h
  have o0 : ∀ j, j < 8 ∨ 32 ≤ j → jt_part t c (t 0) j = t j := fun j h => jt_part_out h w0.2
  obtain ⟨⟨r0, r1, r2, r3⟩, rm, rz, rc⟩ := hr
  have rm' : ∀ m, 0 ≤ m → m < jt_part t c (t 0) 0 → μ (μ 8 m) 0 = jt_part t c (t 0) (4 + m) ∧ ∀ k, 0 ≤ k → k < 6 → μ (μ 8 m + 1) k = jt_part t c (t 0) (8 + 6 * m + k) := rm
  have rz' : ∀ m, jt_part t c (t 0) 0 ≤ m → m < 4 → ∀ k, 0 ≤ k → k < 6 → μ (μ 8 m + 1) k = 0 := rz
  have rc' : ∀ x, 0 ≤ x → x < jt_part t c (t 0) 1 → μ (18 + x) 0 = jt_part t c (t 0) (32 + x) ∧ μ (18 + x) 1 = jt_part t c (t 0) (38 + x) ∧ μ (18 + x) 2 = jt_part t c (t 0) (44 + x) ∧ μ (18 + x) 3 = jt_part t c (t 0) (50 + x) ∧ μ (18 + x) 4 = jt_part t c (t 0) (56 + x) := rc
  have e8 : μ2 8 = μ 8 := f 8 (by omega)
  have e7 : μ2 7 = μ 7 := f 7 (by omega)
  have z0 := o0 0 (by omega)
  have z1 := o0 1 (by omega)
  refine ⟨⟨by rw [e7, o 2 (by omega)]; exact r0, by rw [e7, o 3 (by omega)]; exact r1, by rw [e7, o 0 (by omega)]; exact r2, by rw [e7, o 1 (by omega)]; exact r3⟩, fun a a0 a1 => ?_, fun a a0 a1 k k0 k1 => ?_, fun x x0 x1 => ?_⟩
  · rw [o 0 (by omega)] at a1
    show μ2 (μ2 8 a) 0 = _ ∧ ∀ k, 0 ≤ k → k < 6 → μ2 (μ2 8 a + 1) k = _
    have da := dm a a0 (by omega)
    rw [e8, f (μ 8 a) (by omega), o (4 + a) (by omega)]
    refine ⟨(rm' a a0 a1).1, fun k k0 k1 => ?_⟩
    rw [f (μ 8 a + 1) (by omega), o _ (by omega)]
    exact (rm' a a0 a1).2 k k0 k1
  · rw [o 0 (by omega)] at a0
    show μ2 (μ2 8 a + 1) k = 0
    have da := dm a (by omega) a1
    rw [e8, f (μ 8 a + 1) (by omega)]
    exact rz' a a0 a1 k k0 k1
  · rw [o 1 (by omega)] at x1
    show μ2 (18 + x) 0 = _ ∧ μ2 (18 + x) 1 = _ ∧ μ2 (18 + x) 2 = _ ∧ μ2 (18 + x) 3 = _ ∧ μ2 (18 + x) 4 = _
    rw [o (32 + x) (by omega), o (38 + x) (by omega), o (44 + x) (by omega), o (50 + x) (by omega)]
    have q := rc' x x0 x1
    by_cases hx : x = c
    · rw [hx, e]
      rw [hx] at q
      refine ⟨q.1, q.2.1, q.2.2.1, q.2.2.2.1, ?_⟩
      show μ (18 + c) 4 + 1 = jt_come t c (56 + c)
      unfold jt_come
      rw [if_pos rfl, q.2.2.2.2, o0 (56 + c) (by omega)]
    · rw [f (18 + x) (by omega), o (56 + x) (by omega)]
      exact q
theorem jt_same_come {t : Int → Int} {c : Int} (c0 : 0 ≤ c) (h0 : t 0 ≤ 4) (h1 : t 1 ≤ 6) : jt_same t (jt_come t c) := by
  have o := fun j h => jt_come_out (t := t) (c := c) (j := j) h c0 h0
  refine ⟨o 0 (by omega), o 1 (by omega), o 2 (by omega), o 3 (by omega), fun x x0 x1 => ?_⟩
  rw [o (32 + x) (by omega), o (44 + x) (by omega), o (50 + x) (by omega)]
  exact ⟨rfl, rfl, rfl⟩
set_option maxRecDepth 10000 in
theorem cl_receive_l {X : jm_X} {d : Nat} {Q : jv_P} {t : Int → Int} {c y : Int} {μ0 : jm_M} (hw : jt_wf t) (hc : 0 ≤ c ∧ c < t 1) (hm0 : jh_mats μ0 7) (hcom : μ0 (18 + c) 2 = t (44 + c)) (hcame : μ0 (18 + c) 4 = t (56 + c)) (hcf : 0 ≤ t (56 + c) ∧ t (56 + c) ≤ 100000) (hn : μ0 7 2 = t 0) (hl : ∀ m, 0 ≤ m → m < t 0 → μ0 48 m = jt_by t c m (jt_y t c m.toNat)) (k : ∀ μ2, (∀ z, (z < 10 ∨ 23 < z) → μ2 z = μ0 z) → jh_rel μ2 7 (jt_come t c) → Q [.inl y] μ2) : ∀ (n : Nat) (w : Int) (μ : jm_M), 0 ≤ w → w ≤ t 0 → t 0 - w < n → (∀ z, (z < 10 ∨ 17 < z) → μ z = μ0 z) → jh_rel μ 7 (jt_part t c w) → jV X d jm_p_X4_receive Q 10 [some (.inr (.inr 7)), some (.inr (.inr (18 + c))), some (.inr (.inr 45)), some (.inl y), some (.inl w)] [] μ := by
  have w0 := hw.1
  have w1 := hw.2.1
  have wfc := (hw.2.2.2.2.2.2.2 c hc.1 (by omega)).2.2.1
  intro n
  induction n with
  | zero => intro w μ y0 y1 yn hf hr; exfalso; omega
  | succ n ih =>
    intro w μ y0 y1 yn hf hr
    have f72 : μ 7 2 = t 0 := by rw [hf 7 (by omega)]; exact hn
    have f4 : μ (18 + c) 4 = t (56 + c) := by rw [hf (18 + c) (by omega)]; exact hcame
    have hpw := jt_part_wf hw (c := c) (n := w) hc.1 (by omega) (by omega)
    refine jv_iload rfl rfl rfl ?_
    refine jv_aload_n rfl rfl rfl (by decide) ?_
    refine jv_geti rfl rfl rfl ⟨by decide, rfl⟩ (by decide) ?_
    refine jv_icmp_ge rfl rfl rfl (fun c13 => ?_) (fun c13 => ?_)
    · refine jv_aload_n rfl rfl rfl (by omega) ?_
      refine jv_dupr rfl rfl ?_
      refine jv_geti rfl rfl (jz_com7 (by omega) (by omega)).1 ⟨by omega, rfl⟩ (by decide) ?_
      refine jv_iconst rfl rfl ?_
      refine jv_iadd rfl rfl ⟨by omega, by omega⟩ ?_
      refine jv_puti rfl rfl (jz_com7 (by omega) (by omega)).1 ⟨by omega, rfl⟩ (Or.inl rfl) (fun μ36 eμ36 => ?_)
      refine jv_iload_n rfl rfl rfl ?_
      refine jv_ireturn rfl (Or.inl rfl) ?_
      have hx : w = t 0 := by omega
      rw [hx] at hr
      refine k _ (fun z q => by rw [eμ36, jm_off1 (by omega), hf z (by omega)]) (jrel_came hw hc (jg_mats (hf 8 (by omega)) (hf 9 (by omega)) hm0) hr (fun u q => by rw [eμ36, jm_off1 q]) (by rw [eμ36, jm_uc_self]))
    · refine jv_aload_n rfl rfl rfl (by decide) ?_
      refine jv_getr (w := 8) rfl rfl rfl ⟨by decide, rfl⟩ rfl rfl ?_
      refine jv_iload rfl rfl rfl ?_
      have f8 : μ 8 = μ0 8 := hf 8 (by omega)
      have z0 := jt_part_out (t := t) (c := c) (n := w) (j := 0) (by omega) (by omega)
      have hv : μ (μ0 8 w + 1) (t (44 + c)) = jt_part t c w (8 + 6 * w + t (44 + c)) := by have q := (hr.2.1 w (by omega) (by omega)).2 (t (44 + c)) (by omega) (by omega); have q2 : μ (μ 8 w + 1) (t (44 + c)) = jt_part t c w (8 + 6 * w + t (44 + c)) := q; rw [f8] at q2; exact q2
      have hvr := hpw.2.2.2.2.2.1 (8 + 6 * w + t (44 + c)) (by omega) (by omega)
      have hyr := jt_y_r hw (c := c) hc.1 (by omega) w.toNat (by omega)
      have hbr := jt_by_r hw (c := c) (m := w) hc.1 (by omega) (by omega) (by omega) hyr
      have h48 : μ 48 w = jt_by t c w (jt_y t c w.toNat) := by rw [hf 48 (by omega)]; exact hl w y0 (by omega)
      refine jv_aaloadv (v := μ0 8 w) rfl rfl rfl ⟨by decide, by decide, by decide⟩ ⟨by omega, by omega⟩ (by rw [f8]) ?_
      refine jv_getr (w := ((μ0 8 w) + 1)) rfl rfl (jz_mat7 hm0 (m := w) (by omega) (by omega)).1 ⟨(jz_mat7 hm0 (m := w) (by omega) (by omega)).2.2.1, rfl⟩ rfl rfl ?_
      refine jv_aload_n rfl rfl rfl (by omega) ?_
      refine jv_geti rfl rfl (jz_com7 (by omega) (by omega)).1 ⟨by omega, rfl⟩ (by decide) ?_
      rw [hf (18 + c) (by omega), hcom]
      refine jv_dup2 rfl rfl ?_
      refine jv_iaload rfl rfl (by have := (jz_mat7 hm0 (m := w) (by omega) (by omega)).2.2; omega) (jz_mat7 hm0 (m := w) (by omega) (by omega)).2.1 ⟨by omega, by omega⟩ ?_
      refine jv_aload_n rfl rfl rfl (by decide) ?_
      refine jv_getr (w := 48) rfl rfl rfl ⟨by decide, rfl⟩ rfl rfl ?_
      refine jv_iload rfl rfl rfl ?_
      refine jv_iaload rfl rfl (by decide) rfl ⟨by omega, by omega⟩ ?_
      refine jv_iadd rfl rfl ⟨by omega, by omega⟩ ?_
      refine jv_iastore rfl rfl (jz_mat7 hm0 (m := w) (by omega) (by omega)).2.1 (by have := (jz_mat7 hm0 (m := w) (by omega) (by omega)).2.2; omega) ⟨by omega, by omega⟩ (fun μ28 eμ28 => ?_)
      refine jv_iinc (fun x => [some (.inr (.inr 7)), some (.inr (.inr (18 + c))), some (.inr (.inr 45)), some (.inl y), some (.inl x)]) rfl rfl rfl ⟨by omega, by omega⟩ (fun _ => rfl) (fun x4_29 ex4_29 => ?_)
      refine jv_goto rfl rfl ?_
      have d0 : μ0 8 w = 7 + 3 ∨ μ0 8 w = 7 + 5 ∨ μ0 8 w = 7 + 7 ∨ μ0 8 w = 7 + 9 := hm0.1 w (by omega) (by omega)
      refine ih x4_29 μ28 (by omega) (by omega) (by omega) (fun z q => by rw [eμ28, jm_off1 (by omega), hf z q]) ?_
      rw [ex4_29]
      refine jrel_part hw ⟨hc.1, by omega⟩ ⟨y0, by omega⟩ (jg_mats f8 (hf 9 (by omega)) hm0) hr (fun u q => ?_) ?_
      · rw [f8] at q
        rw [eμ28, jm_off1 q]
      · rw [f8, eμ28, jm_uc_self, h48]
set_option maxRecDepth 10000 in
theorem cl_receive {X : jm_X} {d : Nat} {Q : jv_P} {μ : jm_M} {t : Int → Int} {c : Int} (hHμ : jH μ t) (hc : 0 ≤ c ∧ c < t 1) (hcf : 0 ≤ t (56 + c) ∧ t (56 + c) ≤ 100000) (k : ∀ μ2, (∀ z, (z < 7 ∨ (23 < z ∧ z < 45) ∨ 57 < z) → μ2 z = μ z) → jh_mats μ2 7 → jh_rel μ2 7 (jt_come t c) → Q [.inl (jt_y t c (t 0).toNat)] μ2) : cV X (d + 3) 43 [.inr (.inr 7), .inr (.inr (18 + c)), .inr (.inr 45)] μ Q := by
  have w0 := hHμ.1.1
  have w1 := hHμ.1.2.1
  refine jv_enter (d := d + 2) jm_p_X4_receive [some (.inr (.inr 7)), some (.inr (.inr (18 + c))), some (.inr (.inr 45)), none, none] rfl rfl rfl (Nat.le_of_ble_eq_true rfl) rfl rfl ?_
  refine jv_aload_n rfl rfl rfl (by decide) ?_
  refine jv_aload_n rfl rfl rfl (by decide) ?_
  refine jv_callV1 rfl rfl rfl rfl ⟨by decide, rfl⟩ (Nat.le_of_ble_eq_true rfl) (cl_beginT45 hHμ (fun μ2 fμ2 jμ2 lμ2 => ?_))
  show jV _ _ jm_p_X4_receive _ 3 [some (.inr (.inr 7)), some (.inr (.inr (18 + c))), some (.inr (.inr 45)), none, none] [] μ2
  have hHμ2 := jH_congr (fun z a b => fμ2 z (by omega) (by omega) (by omega)) hHμ
  have n3μ2 := jH_3 hHμ2
  have n2μ2 := jH_2 hHμ2
  refine jv_aload_n rfl rfl rfl (by decide) ?_
  refine jv_aload_n rfl rfl rfl (by decide) ?_
  refine jv_aload_n rfl rfl rfl (by omega) ?_
  refine jv_callV2 rfl rfl rfl rfl ⟨by decide, rfl⟩ (Nat.le_of_ble_eq_true rfl) (cl_goC45 hHμ2 hHμ2.1 (jS_id _) (jl_id _) (by omega) jμ2 (fun μ6 fμ6 jμ6 lμ6 => ?_))
  show jV _ _ jm_p_X4_receive _ 7 [some (.inr (.inr 7)), some (.inr (.inr (18 + c))), some (.inr (.inr 45)), none, none] [.inl (jt_y t c (t 0).toNat)] μ6
  have hHμ6 := jH_congr (fun z a b => fμ6 z (by omega) (by omega)) hHμ2
  have n3μ6 := jH_3 hHμ6
  have n2μ6 := jH_2 hHμ6
  refine jv_istore_n (fun x => [some (.inr (.inr 7)), some (.inr (.inr (18 + c))), some (.inr (.inr 45)), some (.inl x), none]) rfl rfl (fun _ => rfl) (fun x3_7 ex3_7 => ?_)
  refine jv_iconst rfl rfl ?_
  refine jv_istoreK (L2 := [some (.inr (.inr 7)), some (.inr (.inr (18 + c))), some (.inr (.inr 45)), some (.inl x3_7), some (.inl 0)]) rfl rfl rfl ?_
  have rcc : μ6 (18 + c) 0 = t (32 + c) ∧ μ6 (18 + c) 1 = t (38 + c) ∧ μ6 (18 + c) 2 = t (44 + c) ∧ μ6 (18 + c) 3 = t (50 + c) ∧ μ6 (18 + c) 4 = t (56 + c) := hHμ6.2.2.2.2.2.2 c hc.1 hc.2
  refine cl_receive_l hHμ.1 hc hHμ6.2.2.1 rcc.2.2.1 rcc.2.2.2.2 hcf n2μ6 lμ6 (fun μ2 f r => ?_) 9 0 μ6 (by omega) w0.1 (by omega) (fun _ _ => rfl) (by rw [jt_part_0]; exact hHμ6.2.2.2)
  rw [ex3_7]
  exact k _ (fun z q => by rw [f z (by omega), fμ6 z (by omega) (by omega), fμ2 z (by omega) (by omega) (by omega)]) (jg_mats ((f 8 (by omega)).trans ((fμ6 8 (by omega) (by omega)).trans (fμ2 8 (by omega) (by omega) (by omega)))) ((f 9 (by omega)).trans ((fμ6 9 (by omega) (by omega)).trans (fμ2 9 (by omega) (by omega) (by omega)))) hHμ.2.2.1) r
set_option maxRecDepth 10000 in
set_option maxHeartbeats 1000000 in
theorem pr_come {X : jm_X} {c : Int} (r_c : jm_r c) : jp X 95 172 [.inl c] := by
  intro μ hI
  obtain ⟨⟨hit, hlan⟩, ⟨ht0, ht1, ht2⟩, ⟨hr0, hr1, hr2⟩, ⟨hst, hfa⟩, htown, hidle, himg, hpast⟩ := id hI
  obtain ⟨hwf, hcf, hkd, hmat, hrel, hh01, hhot, hnc⟩ := id htown
  obtain ⟨⟨r0, r1, r2, r3⟩, rm, rz, rc⟩ := id hrel
  obtain ⟨w0, w1, w2, w3, w4, w6, w7, w8⟩ := id hwf
  have hHμ := jH_of hI
  obtain ⟨hp0, hp1, hp2, -⟩ := id hpast
  have hcf5 : jt_cf (μ 95) 100000 := fun c a b => by have q := hcf c a b; omega
  have hrc : ∀ c, 0 ≤ c → c < μ 95 1 → μ (18 + c) 4 = μ 95 (56 + c) := fun c a b => (rc c a b).2.2.2.2
  have hrcc := hrc c
  have hcc := hcf c
  refine jv_enter (d := 199) jm_p_X9_come [some (.inr (.inr 0)), some (.inl c)] rfl rfl rfl (Nat.le_of_ble_eq_true rfl) rfl rfl ?_
  refine jv_aload_n rfl rfl rfl (by decide) ?_
  refine jv_iload_n rfl rfl rfl ?_
  refine jv_callV1 rfl rfl rfl rfl ⟨by decide, rfl⟩ (Nat.le_of_ble_eq_true rfl) (cl_noComer (fun b2 => ?_) (fun b2 => ?_))
  · show jV _ _ jm_p_X9_come _ 3 [some (.inr (.inr 0)), some (.inl c)] [.inl 1] μ
    refine jv_if_eqF rfl rfl (by decide) ?_
    refine jv_ldc rfl rfl ?_
    refine jv_ireturn rfl (Or.inl rfl) ?_
    refine ⟨_, rfl, ?_⟩
    skip
    refine jv_enter (d := 199) jm_p_X10_come [some (.inr (.inr 94)), some (.inl c)] rfl rfl rfl (Nat.le_of_ble_eq_true rfl) rfl rfl ?_
    refine jv_aload_n rfl rfl rfl (by decide) ?_
    refine jv_iload_n rfl rfl rfl ?_
    refine jv_callV1 rfl rfl rfl rfl ⟨by decide, rfl⟩ (Nat.le_of_ble_eq_true rfl) (mo_isComer (by omega) (fun b2 => ?_) (fun b2 => ?_))
    · first
      | (exfalso; omega)
      | skip
        show jV _ _ jm_p_X10_come _ 3 [some (.inr (.inr 94)), some (.inl c)] [.inl 1] μ
        refine jv_if_neT rfl rfl (by decide) ?_
        refine jv_aload_n rfl rfl rfl (by decide) ?_
        refine jv_getr (w := 95) rfl rfl rfl ⟨by decide, rfl⟩ rfl rfl ?_
        refine jv_bipush rfl rfl ?_
        refine jv_iload_n rfl rfl rfl ?_
        refine jv_iadd rfl rfl ⟨by omega, by omega⟩ ?_
        refine jv_iaload rfl rfl (by decide) rfl ⟨by omega, by omega⟩ ?_
        refine jv_sipush rfl rfl ?_
        refine jv_icmp_ne rfl rfl rfl (fun c13 => ?_) (fun c13 => ?_)
        · first
          | (exfalso; omega)
          | skip
            refine jv_aload_n rfl rfl rfl (by decide) ?_
            refine jv_callV0 rfl rfl rfl rfl ⟨by decide, rfl⟩ (Nat.le_of_ble_eq_true rfl) (mo_keepPast (by omega) (fun ν17 kν17 tν17 => ?_))
            show jV _ _ jm_p_X10_come _ 18 [some (.inr (.inr 94)), some (.inl c)] [] ν17
            have hUν17 : jU ν17 (μ 95) := fun j j0 j1 => by rw [tν17 j j0 j1, g95]
            have v0ν17 : ν17 95 0 = μ 95 0 := hUν17 0 (by decide) (by decide)
            have v1ν17 : ν17 95 1 = μ 95 1 := hUν17 1 (by decide) (by decide)
            refine jv_aload_n rfl rfl rfl (by decide) ?_
            refine jv_iconst rfl rfl ?_
            refine jv_iload_n rfl rfl rfl ?_
            refine jv_callV2 rfl rfl rfl rfl ⟨by decide, rfl⟩ (Nat.le_of_ble_eq_true rfl) (mo_comes0 hUν17 (by omega) hwf hcf5 (fun ν21 aν21 => ?_))
            show jV _ _ jm_p_X10_come _ 22 [some (.inr (.inr 94)), some (.inl c)] [.inl (jt_y (μ 95) c (μ 95 0).toNat)] ν21
            refine jv_ireturn rfl (Or.inl rfl) ?_
            exfalso; omega
        · first
          | (exfalso; omega)
          | skip
            refine jv_ldc rfl rfl ?_
            refine jv_ireturn rfl (Or.inl rfl) ?_
            exact ⟨jv_one (by omega), hI⟩
    · first
      | (exfalso; omega)
      | skip
        show jV _ _ jm_p_X10_come _ 3 [some (.inr (.inr 94)), some (.inl c)] [.inl 0] μ
        refine jv_if_neF rfl rfl (by decide) ?_
        refine jv_ldc rfl rfl ?_
        refine jv_ireturn rfl (Or.inl rfl) ?_
        exact ⟨jv_one (by omega), hI⟩
  · show jV _ _ jm_p_X9_come _ 3 [some (.inr (.inr 0)), some (.inl c)] [.inl 0] μ
    refine jv_if_eqT rfl rfl (by decide) ?_
    refine jv_aload_n rfl rfl rfl (by decide) ?_
    refine jv_getr (w := 7) rfl rfl rfl ⟨by decide, rfl⟩ rfl rfl ?_
    refine jv_getr (w := 9) rfl rfl rfl ⟨by decide, rfl⟩ rfl rfl ?_
    refine jv_iload_n rfl rfl rfl ?_
    refine jv_aaloadv (v := 18 + c) rfl rfl rfl ⟨by decide, by decide, by decide⟩ ⟨by omega, by omega⟩ (jH_com hHμ (by omega) (by omega)) ?_
    refine jv_geti rfl rfl (jz_com7 (by omega) (by omega)).1 ⟨by omega, rfl⟩ (by decide) ?_
    refine jv_sipush rfl rfl ?_
    refine jv_icmp_lt rfl rfl rfl (fun c13 => ?_) (fun c13 => ?_)
    · refine jv_aload_n rfl rfl rfl (by decide) ?_
      refine jv_getr (w := 43) rfl rfl rfl ⟨by decide, rfl⟩ rfl rfl ?_
      refine jv_aload_n rfl rfl rfl (by decide) ?_
      refine jv_getr (w := 7) rfl rfl rfl ⟨by decide, rfl⟩ rfl rfl ?_
      refine jv_callV1 rfl rfl rfl rfl ⟨by decide, rfl⟩ (Nat.le_of_ble_eq_true rfl) (cl_keep hHμ hp2 (by omega) (fun μ20 kμ20 => ?_))
      show jV _ _ jm_p_X9_come _ 21 [some (.inr (.inr 0)), some (.inl c)] [] μ20
      have hHμ20 := jH_kk hHμ kμ20
      have n3μ20 := jH_3 hHμ20
      have n2μ20 := jH_2 hHμ20
      refine jv_aload_n rfl rfl rfl (by decide) ?_
      refine jv_getr (w := 7) rfl rfl rfl ⟨by decide, rfl⟩ rfl rfl ?_
      refine jv_aload_n rfl rfl rfl (by decide) ?_
      refine jv_getr (w := 7) rfl rfl rfl ⟨by decide, rfl⟩ rfl rfl ?_
      refine jv_getr (w := 9) rfl rfl rfl ⟨by decide, rfl⟩ rfl rfl ?_
      refine jv_iload_n rfl rfl rfl ?_
      refine jv_aaloadv (v := 18 + c) rfl rfl rfl ⟨by decide, by decide, by decide⟩ ⟨by omega, by omega⟩ (jH_com hHμ20 (by omega) (by omega)) ?_
      refine jv_aload_n rfl rfl rfl (by decide) ?_
      refine jv_getr (w := 45) rfl rfl rfl ⟨by decide, rfl⟩ rfl rfl ?_
      refine jv_callV2 rfl rfl rfl rfl ⟨by decide, rfl⟩ (Nat.le_of_ble_eq_true rfl) (cl_receive hHμ20 (by omega) (by have q := hcf c (by omega) (by omega); omega) (fun μ30 fμ30 mμ30 rμ30 => ?_))
      show jV _ _ jm_p_X9_come _ 31 [some (.inr (.inr 0)), some (.inl c)] [.inl (jt_y (μ 95) c (μ 95 0).toNat)] μ30
      refine jv_ireturn rfl (Or.inl rfl) ?_
      refine ⟨_, rfl, ?_⟩
      have g95 : μ30 95 = μ 95 := by rw [fμ30 95 (by omega), kμ20.1 95 (by decide) (by decide)]
      have g00 : μ30 95 0 = μ 95 0 := by rw [g95]
      have g01 : μ30 95 1 = μ 95 1 := by rw [g95]
      have g94 : μ30 94 = μ 94 := by rw [fμ30 94 (by omega), kμ20.1 94 (by decide) (by decide)]
      have g942 : μ30 94 2 = μ 94 2 := by rw [g94]
      have g941 : μ30 94 1 = μ 94 1 := by rw [g94]
      have g56 : μ30 95 (56 + c) = μ 95 (56 + c) := by rw [g95]
      refine jv_enter (d := 199) jm_p_X10_come [some (.inr (.inr 94)), some (.inl c)] rfl rfl rfl (Nat.le_of_ble_eq_true rfl) rfl rfl ?_
      refine jv_aload_n rfl rfl rfl (by decide) ?_
      refine jv_iload_n rfl rfl rfl ?_
      refine jv_callV1 rfl rfl rfl rfl ⟨by decide, rfl⟩ (Nat.le_of_ble_eq_true rfl) (mo_isComer (by omega) (fun b2 => ?_) (fun b2 => ?_))
      · first
        | (exfalso; omega)
        | skip
          show jV _ _ jm_p_X10_come _ 3 [some (.inr (.inr 94)), some (.inl c)] [.inl 1] μ30
          refine jv_if_neT rfl rfl (by decide) ?_
          refine jv_aload_n rfl rfl rfl (by decide) ?_
          refine jv_getr (w := 95) rfl rfl rfl ⟨by decide, rfl⟩ rfl rfl ?_
          refine jv_bipush rfl rfl ?_
          refine jv_iload_n rfl rfl rfl ?_
          refine jv_iadd rfl rfl ⟨by omega, by omega⟩ ?_
          refine jv_iaload rfl rfl (by decide) rfl ⟨by omega, by omega⟩ ?_
          refine jv_sipush rfl rfl ?_
          refine jv_icmp_ne rfl rfl rfl (fun c13 => ?_) (fun c13 => ?_)
          · first
            | (exfalso; omega)
            | skip
              refine jv_aload_n rfl rfl rfl (by decide) ?_
              refine jv_callV0 rfl rfl rfl rfl ⟨by decide, rfl⟩ (Nat.le_of_ble_eq_true rfl) (mo_keepPast (by omega) (fun ν17 kν17 tν17 => ?_))
              show jV _ _ jm_p_X10_come _ 18 [some (.inr (.inr 94)), some (.inl c)] [] ν17
              have hUν17 : jU ν17 (μ 95) := fun j j0 j1 => by rw [tν17 j j0 j1, g95]
              have v0ν17 : ν17 95 0 = μ 95 0 := hUν17 0 (by decide) (by decide)
              have v1ν17 : ν17 95 1 = μ 95 1 := hUν17 1 (by decide) (by decide)
              refine jv_aload_n rfl rfl rfl (by decide) ?_
              refine jv_iconst rfl rfl ?_
              refine jv_iload_n rfl rfl rfl ?_
              refine jv_callV2 rfl rfl rfl rfl ⟨by decide, rfl⟩ (Nat.le_of_ble_eq_true rfl) (mo_comes0 hUν17 (by omega) hwf hcf5 (fun ν21 aν21 => ?_))
              show jV _ _ jm_p_X10_come _ 22 [some (.inr (.inr 94)), some (.inl c)] [.inl (jt_y (μ 95) c (μ 95 0).toNat)] ν21
              refine jv_ireturn rfl (Or.inl rfl) ?_
              have hcf1 : jt_cf (jt_come (μ 95) c) 999 := fun x x0 x1 => by
                have q := hcf x x0 x1
                unfold jt_come
                split
                · rename_i hx
                  have hxc : x = c := by omega
                  rw [hxc] at q ⊢
                  omega
                · rw [jt_part_out (by omega) w0.2]
                  exact q
              exact ⟨jv_one (by omega), jI_act2 hI kμ20 (fun z q => fμ30 z (by omega)) (jkm_act kν17 (by omega) aν21) aν21.2.2 mμ30 rμ30 (jt_come_wf hwf (by omega) (by omega)) hcf1 (jt_same_come (by omega) w0.2 w1.2)⟩
          · first
            | (exfalso; omega)
            | skip
              refine jv_ldc rfl rfl ?_
              refine jv_ireturn rfl (Or.inl rfl) ?_
              exfalso; omega
      · first
        | (exfalso; omega)
        | skip
          show jV _ _ jm_p_X10_come _ 3 [some (.inr (.inr 94)), some (.inl c)] [.inl 0] μ30
          refine jv_if_neF rfl rfl (by decide) ?_
          refine jv_ldc rfl rfl ?_
          refine jv_ireturn rfl (Or.inl rfl) ?_
          exfalso; omega
    · refine jv_ldc rfl rfl ?_
      refine jv_ireturn rfl (Or.inl rfl) ?_
      refine ⟨_, rfl, ?_⟩
      skip
      refine jv_enter (d := 199) jm_p_X10_come [some (.inr (.inr 94)), some (.inl c)] rfl rfl rfl (Nat.le_of_ble_eq_true rfl) rfl rfl ?_
      refine jv_aload_n rfl rfl rfl (by decide) ?_
      refine jv_iload_n rfl rfl rfl ?_
      refine jv_callV1 rfl rfl rfl rfl ⟨by decide, rfl⟩ (Nat.le_of_ble_eq_true rfl) (mo_isComer (by omega) (fun b2 => ?_) (fun b2 => ?_))
      · first
        | (exfalso; omega)
        | skip
          show jV _ _ jm_p_X10_come _ 3 [some (.inr (.inr 94)), some (.inl c)] [.inl 1] μ
          refine jv_if_neT rfl rfl (by decide) ?_
          refine jv_aload_n rfl rfl rfl (by decide) ?_
          refine jv_getr (w := 95) rfl rfl rfl ⟨by decide, rfl⟩ rfl rfl ?_
          refine jv_bipush rfl rfl ?_
          refine jv_iload_n rfl rfl rfl ?_
          refine jv_iadd rfl rfl ⟨by omega, by omega⟩ ?_
          refine jv_iaload rfl rfl (by decide) rfl ⟨by omega, by omega⟩ ?_
          refine jv_sipush rfl rfl ?_
          refine jv_icmp_ne rfl rfl rfl (fun c13 => ?_) (fun c13 => ?_)
          · first
            | (exfalso; omega)
            | skip
              refine jv_aload_n rfl rfl rfl (by decide) ?_
              refine jv_callV0 rfl rfl rfl rfl ⟨by decide, rfl⟩ (Nat.le_of_ble_eq_true rfl) (mo_keepPast (by omega) (fun ν17 kν17 tν17 => ?_))
              show jV _ _ jm_p_X10_come _ 18 [some (.inr (.inr 94)), some (.inl c)] [] ν17
              have hUν17 : jU ν17 (μ 95) := fun j j0 j1 => by rw [tν17 j j0 j1, g95]
              have v0ν17 : ν17 95 0 = μ 95 0 := hUν17 0 (by decide) (by decide)
              have v1ν17 : ν17 95 1 = μ 95 1 := hUν17 1 (by decide) (by decide)
              refine jv_aload_n rfl rfl rfl (by decide) ?_
              refine jv_iconst rfl rfl ?_
              refine jv_iload_n rfl rfl rfl ?_
              refine jv_callV2 rfl rfl rfl rfl ⟨by decide, rfl⟩ (Nat.le_of_ble_eq_true rfl) (mo_comes0 hUν17 (by omega) hwf hcf5 (fun ν21 aν21 => ?_))
              show jV _ _ jm_p_X10_come _ 22 [some (.inr (.inr 94)), some (.inl c)] [.inl (jt_y (μ 95) c (μ 95 0).toNat)] ν21
              refine jv_ireturn rfl (Or.inl rfl) ?_
              exfalso; omega
          · first
            | (exfalso; omega)
            | skip
              refine jv_ldc rfl rfl ?_
              refine jv_ireturn rfl (Or.inl rfl) ?_
              exact ⟨jv_one (by omega), hI⟩
      · first
        | (exfalso; omega)
        | skip
          show jV _ _ jm_p_X10_come _ 3 [some (.inr (.inr 94)), some (.inl c)] [.inl 0] μ
          refine jv_if_neF rfl rfl (by decide) ?_
          refine jv_ldc rfl rfl ?_
          refine jv_ireturn rfl (Or.inl rfl) ?_
          exact ⟨jv_one (by omega), hI⟩
