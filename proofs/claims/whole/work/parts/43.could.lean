theorem jt_come_at {t : Int → Int} {c m k : Int} (c0 : 0 ≤ c) (m0 : 0 ≤ m) (m1 : m < t 0) (h4 : t 0 ≤ 4) (k0 : 0 ≤ k) (k1 : k < 6) : jt_come t c (8 + 6 * m + k) = t (8 + 6 * m + k) + if k = t (44 + c) then jt_by t c m (jt_y t c m.toNat) else 0 := by
  unfold jt_come jt_part
  rw [if_neg (by omega)]
  have e1 : (8 + 6 * m + k - 8) % 6 = k := by omega
  have e2 : (8 + 6 * m + k - 8) / 6 = m := by omega
  rw [e1, e2]
  by_cases hk : k = t (44 + c)
  · rw [if_pos ⟨by omega, by omega, hk⟩, if_pos hk]
  · rw [if_neg (fun q => hk q.2.2), if_neg hk, Int.add_zero]
/-- enough of b's country lies on a behind c -/
def jt_bd (t : Int → Int) (c a b : Int) : Prop := t 3 ≤ t (8 + 6 * a + t (4 + b)) + if t (4 + b) = t (44 + c) then jt_by t c a (jt_y t c a.toNat) else 0
theorem jt_one_come {t : Int → Int} (hw : jt_wf t) {c a b : Int} (c0 : 0 ≤ c) (a0 : 0 ≤ a) (a1 : a < t 0) (b0 : 0 ≤ b) (b1 : b < t 0) : jt_one (jt_come t c) a b ↔ jt_bd t c a b ∧ jt_bd t c b a := by
  obtain ⟨w0, w1, w2, w3, w4, w6, w7, w8⟩ := hw
  have o := fun j q => jt_come_out (t := t) (c := c) (j := j) q c0 w0.2
  have wa := w4 a a0 (by omega)
  have wb := w4 b b0 (by omega)
  unfold jt_one jt_bd
  rw [o 3 (by omega), o (4 + a) (by omega), o (4 + b) (by omega), jt_come_at c0 a0 a1 w0.2 wb.1 (by omega), jt_come_at c0 b0 b1 w0.2 wa.1 (by omega)]
theorem jt_one_congr {t u : Int → Int} (h : ∀ k, 0 ≤ k → k < 62 → t k = u k) (hw : jt_wf t) {a b : Int} (a0 : 0 ≤ a) (a1 : a < 4) (b0 : 0 ≤ b) (b1 : b < 4) : jt_one t a b ↔ jt_one u a b := by
  have wa := hw.2.2.2.2.1 a a0 a1
  have wb := hw.2.2.2.2.1 b b0 b1
  unfold jt_one
  rw [← h 3 (by omega) (by omega), ← h (4 + a) (by omega) (by omega), ← h (4 + b) (by omega) (by omega), ← h (8 + 6 * a + t (4 + b)) (by omega) (by omega), ← h (8 + 6 * b + t (4 + a)) (by omega) (by omega)]
theorem mo_oneT {X : jm_X} {d : Nat} {Q : jv_P} {μ : jm_M} {a b : Int} {T : Int → Int} (hT : jT μ T) (hw : jt_wf T) (ha : 0 ≤ a ∧ a < 4) (hb : 0 ≤ b ∧ b < 4) (k1 : a ≠ b ∧ jt_one T a b → Q [.inl 1] μ) (k0 : ¬ (a ≠ b ∧ jt_one T a b) → Q [.inl 0] μ) : cV X (d + 1) 171 [.inr (.inr 94), .inl 1674, .inl a, .inl b] μ Q := by
  have hs : ∀ k, 0 ≤ k → k < 62 → T k = (fun k => μ 95 (1674 + k)) k := fun k a b => (hT k a b).symm
  have e := jt_one_congr hs hw ha.1 ha.2 hb.1 hb.2
  refine mo_areAtOne (by omega) ha hb (jt_wf_congr hs hw) (fun q => k1 ?_) (fun q => k0 ?_)
  · rw [e]; exact q
  · rw [e]; exact q
set_option maxRecDepth 10000 in
theorem cl_bindsTo {X : jm_X} {d : Nat} {Q : jv_P} {μ : jm_M} {a b f lf : Int} {t : Int → Int} (hHμ : jH μ t) (ha : 0 ≤ a ∧ a < t 0) (hb : 0 ≤ b ∧ b < t 0) (hl : μ 53 a = lf) (hlf : 0 ≤ lf ∧ lf ≤ 60) (k1 : (t 3 ≤ t (8 + 6 * a + t (4 + b)) + if t (4 + b) = f then lf else 0) → Q [.inl 1] μ) (k0 : ¬ (t 3 ≤ t (8 + 6 * a + t (4 + b)) + if t (4 + b) = f then lf else 0) → Q [.inl 0] μ) : cV X (d + 1) 21 [.inr (.inr 49), .inr (.inr 7), .inl a, .inl b, .inl f] μ Q := by
  obtain ⟨w0, w1, w2, w3, w4, w6, w7, w8⟩ := id hHμ.1
  obtain ⟨⟨r0, r1, r2, r3⟩, rm, -, -⟩ := id hHμ.2.2.2
  have hrm : ∀ m, 0 ≤ m → m < t 0 → μ (μ 8 m) 0 = t (4 + m) ∧ ∀ k, 0 ≤ k → k < 6 → μ (μ 8 m + 1) k = t (8 + 6 * m + k) := fun m a b => rm m a b
  have cb := (hrm b hb.1 hb.2).1
  have wb := w4 b hb.1 (by omega)
  have sa := (hrm a ha.1 ha.2).2 (t (4 + b)) (by omega) (by omega)
  have sr := w6 (8 + 6 * a + t (4 + b)) (by omega) (by omega)
  refine jv_enter (d := d + 0) jm_p_X2_bindsTo [some (.inr (.inr 49)), some (.inr (.inr 7)), some (.inl a), some (.inl b), some (.inl f), none, none] rfl rfl rfl (Nat.le_of_ble_eq_true rfl) rfl rfl ?_
  refine jv_aload_n rfl rfl rfl (by decide) ?_
  refine jv_getr (w := 8) rfl rfl rfl ⟨by decide, rfl⟩ rfl rfl ?_
  refine jv_iload_n rfl rfl rfl ?_
  refine jv_aaload rfl rfl rfl ⟨by decide, by decide, by decide⟩ ⟨by omega, by omega⟩ ?_
  refine jv_geti rfl rfl (jz_mat7 hHμ.2.2.1 (m := b) (by omega) (by omega)).1 ⟨(jz_mat7 hHμ.2.2.1 (m := b) (by omega) (by omega)).2.2.1, rfl⟩ (by decide) ?_
  refine jv_istore (fun x => [some (.inr (.inr 49)), some (.inr (.inr 7)), some (.inl a), some (.inl b), some (.inl f), some (.inl x), none]) rfl rfl (fun _ => rfl) (fun x5_5 ex5_5 => ?_)
  have sa5 : μ (μ 8 a + 1) x5_5 = t (8 + 6 * a + t (4 + b)) := by rw [ex5_5, cb]; exact sa
  refine jv_iload rfl rfl rfl ?_
  refine jv_iload rfl rfl rfl ?_
  refine jv_icmp_ne rfl rfl rfl (fun c8 => ?_) (fun c8 => ?_)
  · refine jv_iconst rfl rfl ?_
    refine jv_istoreK (L2 := [some (.inr (.inr 49)), some (.inr (.inr 7)), some (.inl a), some (.inl b), some (.inl f), some (.inl x5_5), some (.inl 0)]) rfl rfl rfl ?_
    refine jv_aload_n rfl rfl rfl (by decide) ?_
    refine jv_getr (w := 8) rfl rfl rfl ⟨by decide, rfl⟩ rfl rfl ?_
    refine jv_iload_n rfl rfl rfl ?_
    refine jv_aaload rfl rfl rfl ⟨by decide, by decide, by decide⟩ ⟨by omega, by omega⟩ ?_
    refine jv_getr (w := (μ 8 a) + 1) rfl rfl (jz_mat7 hHμ.2.2.1 (m := a) (by omega) (by omega)).1 ⟨(jz_mat7 hHμ.2.2.1 (m := a) (by omega) (by omega)).2.2.1, rfl⟩ rfl rfl ?_
    refine jv_iload rfl rfl rfl ?_
    refine jv_iaload rfl rfl (by have := (jz_mat7 hHμ.2.2.1 (m := a) (by omega) (by omega)).2.2; omega) (jz_mat7 hHμ.2.2.1 (m := a) (by omega) (by omega)).2.1 ⟨by omega, by omega⟩ ?_
    refine jv_iload rfl rfl rfl ?_
    refine jv_iadd rfl rfl ⟨by omega, by omega⟩ ?_
    refine jv_aload_n rfl rfl rfl (by decide) ?_
    refine jv_geti rfl rfl rfl ⟨by decide, rfl⟩ (by decide) ?_
    refine jv_icmp_lt rfl rfl rfl (fun c28 => ?_) (fun c28 => ?_)
    · refine jv_iconst rfl rfl ?_
      refine jv_ireturn rfl (Or.inr ⟨rfl, by decide⟩) ?_
      exact k0 (by split <;> omega)
    · refine jv_iconst rfl rfl ?_
      refine jv_goto rfl rfl ?_
      refine jv_ireturn rfl (Or.inr ⟨rfl, by decide⟩) ?_
      exact k1 (by split <;> omega)
  · refine jv_aload_n rfl rfl rfl (by decide) ?_
    refine jv_getr (w := 50) rfl rfl rfl ⟨by decide, rfl⟩ rfl rfl ?_
    refine jv_getr (w := 53) rfl rfl rfl ⟨by decide, rfl⟩ rfl rfl ?_
    refine jv_iload_n rfl rfl rfl ?_
    refine jv_iaload rfl rfl (by decide) rfl ⟨by omega, by omega⟩ ?_
    refine jv_goto rfl rfl ?_
    refine jv_istore (fun x => [some (.inr (.inr 49)), some (.inr (.inr 7)), some (.inl a), some (.inl b), some (.inl f), some (.inl x5_5), some (.inl x)]) rfl rfl (fun _ => rfl) (fun x6_16 ex6_16 => ?_)
    refine jv_aload_n rfl rfl rfl (by decide) ?_
    refine jv_getr (w := 8) rfl rfl rfl ⟨by decide, rfl⟩ rfl rfl ?_
    refine jv_iload_n rfl rfl rfl ?_
    refine jv_aaload rfl rfl rfl ⟨by decide, by decide, by decide⟩ ⟨by omega, by omega⟩ ?_
    refine jv_getr (w := (μ 8 a) + 1) rfl rfl (jz_mat7 hHμ.2.2.1 (m := a) (by omega) (by omega)).1 ⟨(jz_mat7 hHμ.2.2.1 (m := a) (by omega) (by omega)).2.2.1, rfl⟩ rfl rfl ?_
    refine jv_iload rfl rfl rfl ?_
    refine jv_iaload rfl rfl (by have := (jz_mat7 hHμ.2.2.1 (m := a) (by omega) (by omega)).2.2; omega) (jz_mat7 hHμ.2.2.1 (m := a) (by omega) (by omega)).2.1 ⟨by omega, by omega⟩ ?_
    refine jv_iload rfl rfl rfl ?_
    refine jv_iadd rfl rfl ⟨by omega, by omega⟩ ?_
    refine jv_aload_n rfl rfl rfl (by decide) ?_
    refine jv_geti rfl rfl rfl ⟨by decide, rfl⟩ (by decide) ?_
    refine jv_icmp_lt rfl rfl rfl (fun c28_1 => ?_) (fun c28_1 => ?_)
    · refine jv_iconst rfl rfl ?_
      refine jv_ireturn rfl (Or.inr ⟨rfl, by decide⟩) ?_
      exact k0 (by split <;> omega)
    · refine jv_iconst rfl rfl ?_
      refine jv_goto rfl rfl ?_
      refine jv_ireturn rfl (Or.inr ⟨rfl, by decide⟩) ?_
      exact k1 (by split <;> omega)
set_option maxRecDepth 10000 in
theorem cl_uniters_l {X : jm_X} {d : Nat} {Q : jv_P} {t : Int → Int} {a b : Int} {μ0 : jm_M} (hH0 : jH μ0 t) (ha : 0 ≤ a ∧ a < t 0) (hb : 0 ≤ b ∧ b < t 0) (k : ∀ s μ2, jb_is (fun c => jt_one (jt_come t c) a b) 0 (t 1 - 0).toNat s → jf μ0 μ2 → Q [.inl s] μ2) : ∀ (n : Nat) (s w : Int) (o6 : Option jm_V) (μ : jm_M), 0 ≤ w → w ≤ t 1 → t 1 - w < n → jb_is (fun c => jt_one (jt_come t c) a b) 0 (w - 0).toNat s → jf μ0 μ → jV X (d + 2) jm_p_X2_uniters Q 4 [some (.inr (.inr 49)), some (.inr (.inr 7)), some (.inl a), some (.inl b), some (.inl s), some (.inl w), o6] [] μ := by
  intro n
  induction n with
  | zero => intro s w o6 μ y0 y1 yn hs hf; exfalso; omega
  | succ n ih =>
    intro s w o6 μ y0 y1 yn hs hf
    have hHμ := jH_jf hf hH0
    have n3μ := jH_3 hHμ
    have n2μ := jH_2 hHμ
    obtain ⟨w0, w1, w2, w3, w4, w6, w7, w8⟩ := id hHμ.1
    refine jv_iload rfl rfl rfl ?_
    refine jv_aload_n rfl rfl rfl (by decide) ?_
    refine jv_geti rfl rfl rfl ⟨by decide, rfl⟩ (by decide) ?_
    refine jv_icmp_ge rfl rfl rfl (fun c7 => ?_) (fun c7 => ?_)
    · refine jv_iload rfl rfl rfl ?_
      refine jv_ireturn rfl (Or.inl rfl) ?_
      have hw : w = t 1 := by omega
      rw [hw] at hs
      exact k _ _ hs hf
    · refine jv_aload_n rfl rfl rfl (by decide) ?_
      refine jv_getr (w := 50) rfl rfl rfl ⟨by decide, rfl⟩ rfl rfl ?_
      refine jv_aload_n rfl rfl rfl (by decide) ?_
      refine jv_callV1 rfl rfl rfl rfl ⟨by decide, rfl⟩ (Nat.le_of_ble_eq_true rfl) (cl_beginT50 hHμ (fun μ11 fμ11 jμ11 lμ11 => ?_))
      show jV _ _ jm_p_X2_uniters _ 12 [some (.inr (.inr 49)), some (.inr (.inr 7)), some (.inl a), some (.inl b), some (.inl s), some (.inl w), o6] [] μ11
      have hHμ11 := jH_congr (fun z a b => fμ11 z (by omega) (by omega) (by omega)) hHμ
      have n3μ11 := jH_3 hHμ11
      have n2μ11 := jH_2 hHμ11
      refine jv_aload_n rfl rfl rfl (by decide) ?_
      refine jv_getr (w := 50) rfl rfl rfl ⟨by decide, rfl⟩ rfl rfl ?_
      refine jv_aload_n rfl rfl rfl (by decide) ?_
      refine jv_aload_n rfl rfl rfl (by decide) ?_
      refine jv_getr (w := 9) rfl rfl rfl ⟨by decide, rfl⟩ rfl rfl ?_
      refine jv_iload rfl rfl rfl ?_
      refine jv_aaloadv (v := 18 + w) rfl rfl rfl ⟨by decide, by decide, by decide⟩ ⟨by omega, by omega⟩ (jH_com hHμ11 (by omega) (by omega)) ?_
      refine jv_callV2 rfl rfl rfl rfl ⟨by decide, rfl⟩ (Nat.le_of_ble_eq_true rfl) (cl_goC50 hHμ11 hHμ11.1 (jS_id _) (jl_id _) (by omega) jμ11 (fun μ19 fμ19 jμ19 lμ19 => ?_))
      show jV _ _ jm_p_X2_uniters _ 20 [some (.inr (.inr 49)), some (.inr (.inr 7)), some (.inl a), some (.inl b), some (.inl s), some (.inl w), o6] [.inl (jt_y t w (t 0).toNat)] μ19
      have hHμ19 := jH_congr (fun z a b => fμ19 z (by omega) (by omega)) hHμ11
      have n3μ19 := jH_3 hHμ19
      have n2μ19 := jH_2 hHμ19
      refine jv_pop rfl rfl ?_
      refine jv_aload_n rfl rfl rfl (by decide) ?_
      refine jv_getr (w := 9) rfl rfl rfl ⟨by decide, rfl⟩ rfl rfl ?_
      refine jv_iload rfl rfl rfl ?_
      refine jv_aaloadv (v := 18 + w) rfl rfl rfl ⟨by decide, by decide, by decide⟩ ⟨by omega, by omega⟩ (jH_com hHμ19 (by omega) (by omega)) ?_
      refine jv_geti rfl rfl (jz_com7 (by omega) (by omega)).1 ⟨by omega, rfl⟩ (by decide) ?_
      refine jv_istore (fun x => [some (.inr (.inr 49)), some (.inr (.inr 7)), some (.inl a), some (.inl b), some (.inl s), some (.inl w), some (.inl x)]) rfl rfl (fun _ => rfl) (fun x6_26 ex6_26 => ?_)
      have ef : x6_26 = t (44 + w) := by rw [ex6_26]; exact (hHμ19.2.2.2.2.2.2 w (by omega) (by omega)).2.2.1
      refine jv_aload_n rfl rfl rfl (by decide) ?_
      refine jv_aload_n rfl rfl rfl (by decide) ?_
      refine jv_iload_n rfl rfl rfl ?_
      refine jv_iload_n rfl rfl rfl ?_
      refine jv_iload rfl rfl rfl ?_
      refine jv_callV4 rfl rfl rfl rfl ⟨by decide, rfl⟩ (Nat.le_of_ble_eq_true rfl) (cl_bindsTo hHμ19 (by omega) (by omega) (lμ19 a (by omega) (by omega)) (by have q := jt_by_r hHμ.1 (c := w) (m := a) (by omega) (by omega) (by omega) (by omega) (jt_y_r hHμ.1 (c := w) (by omega) (by omega) a.toNat (by omega)); have q2 := jt_y_r hHμ.1 (c := w) (by omega) (by omega) a.toNat (by omega); omega) (fun b32 => ?_) (fun b32 => ?_))
      · show jV _ _ jm_p_X2_uniters _ 33 [some (.inr (.inr 49)), some (.inr (.inr 7)), some (.inl a), some (.inl b), some (.inl s), some (.inl w), some (.inl x6_26)] [.inl 1] μ19
        refine jv_if_eqF rfl rfl (by decide) ?_
        refine jv_aload_n rfl rfl rfl (by decide) ?_
        refine jv_aload_n rfl rfl rfl (by decide) ?_
        refine jv_iload_n rfl rfl rfl ?_
        refine jv_iload_n rfl rfl rfl ?_
        refine jv_iload rfl rfl rfl ?_
        refine jv_callV4 rfl rfl rfl rfl ⟨by decide, rfl⟩ (Nat.le_of_ble_eq_true rfl) (cl_bindsTo hHμ19 (by omega) (by omega) (lμ19 b (by omega) (by omega)) (by have q := jt_by_r hHμ.1 (c := w) (m := b) (by omega) (by omega) (by omega) (by omega) (jt_y_r hHμ.1 (c := w) (by omega) (by omega) b.toNat (by omega)); have q2 := jt_y_r hHμ.1 (c := w) (by omega) (by omega) b.toNat (by omega); omega) (fun b39 => ?_) (fun b39 => ?_))
        · show jV _ _ jm_p_X2_uniters _ 40 [some (.inr (.inr 49)), some (.inr (.inr 7)), some (.inl a), some (.inl b), some (.inl s), some (.inl w), some (.inl x6_26)] [.inl 1] μ19
          refine jv_if_eqF rfl rfl (by decide) ?_
          refine jv_iload rfl rfl rfl ?_
          refine jv_iconst rfl rfl ?_
          refine jv_iload rfl rfl rfl ?_
          refine jv_ishl rfl rfl ?_
          refine jv_ior rfl rfl ?_
          refine jv_istore (fun x => [some (.inr (.inr 49)), some (.inr (.inr 7)), some (.inl a), some (.inl b), some (.inl x), some (.inl w), some (.inl x6_26)]) rfl rfl (fun _ => rfl) (fun x4_46 ex4_46 => ?_)
          refine jv_iinc (fun x => [some (.inr (.inr 49)), some (.inr (.inr 7)), some (.inl a), some (.inl b), some (.inl x4_46), some (.inl x), some (.inl x6_26)]) rfl rfl rfl ⟨by omega, by omega⟩ (fun _ => rfl) (fun x5_47 ex5_47 => ?_)
          refine jv_goto rfl rfl ?_
          refine ih x4_46 x5_47 _ μ19 (by omega) (by omega) (by omega) ?_ ?_
          · rw [ex5_47, show (w + 1 - 0).toNat = (w - 0).toNat + 1 by omega]
            refine ⟨s, hs, ?_⟩
            rw [show 0 + (((w - 0).toNat : Nat) : Int) = w by omega]
            first
            | exact Or.inl ⟨by exact (jt_one_come hHμ.1 (by omega) (by omega) (by omega) (by omega) (by omega)).2 ⟨by unfold jt_bd; rw [← ef]; exact b32, by unfold jt_bd; rw [← ef]; exact b39⟩, ex4_46⟩
            | exact Or.inr ⟨by exact fun q => by have q2 := (jt_one_come hHμ.1 (by omega) (by omega) (by omega) (by omega) (by omega)).1 q; unfold jt_bd at q2; rw [← ef] at q2; first | exact b39 q2.2 | exact b32 q2.1, by rw [ex4_46]; exact jm_or_0 (jb_is_r _ _ hs)⟩
          · exact fun z q => by rw [fμ19 z (by omega) (by omega), fμ11 z (by omega) (by omega) (by omega), hf z q]
        · show jV _ _ jm_p_X2_uniters _ 40 [some (.inr (.inr 49)), some (.inr (.inr 7)), some (.inl a), some (.inl b), some (.inl s), some (.inl w), some (.inl x6_26)] [.inl 0] μ19
          refine jv_if_eqT rfl rfl (by decide) ?_
          refine jv_iinc (fun x => [some (.inr (.inr 49)), some (.inr (.inr 7)), some (.inl a), some (.inl b), some (.inl s), some (.inl x), some (.inl x6_26)]) rfl rfl rfl ⟨by omega, by omega⟩ (fun _ => rfl) (fun x5_47_1 ex5_47_1 => ?_)
          refine jv_goto rfl rfl ?_
          refine ih s x5_47_1 _ μ19 (by omega) (by omega) (by omega) ?_ ?_
          · rw [ex5_47_1, show (w + 1 - 0).toNat = (w - 0).toNat + 1 by omega]
            refine ⟨s, hs, ?_⟩
            rw [show 0 + (((w - 0).toNat : Nat) : Int) = w by omega]
            first
            | exact Or.inl ⟨by exact (jt_one_come hHμ.1 (by omega) (by omega) (by omega) (by omega) (by omega)).2 ⟨by unfold jt_bd; rw [← ef]; exact b32, by unfold jt_bd; rw [← ef]; exact b39⟩, rfl⟩
            | exact Or.inr ⟨by exact fun q => by have q2 := (jt_one_come hHμ.1 (by omega) (by omega) (by omega) (by omega) (by omega)).1 q; unfold jt_bd at q2; rw [← ef] at q2; first | exact b39 q2.2 | exact b32 q2.1, rfl⟩
          · exact fun z q => by rw [fμ19 z (by omega) (by omega), fμ11 z (by omega) (by omega) (by omega), hf z q]
      · show jV _ _ jm_p_X2_uniters _ 33 [some (.inr (.inr 49)), some (.inr (.inr 7)), some (.inl a), some (.inl b), some (.inl s), some (.inl w), some (.inl x6_26)] [.inl 0] μ19
        refine jv_if_eqT rfl rfl (by decide) ?_
        refine jv_iinc (fun x => [some (.inr (.inr 49)), some (.inr (.inr 7)), some (.inl a), some (.inl b), some (.inl s), some (.inl x), some (.inl x6_26)]) rfl rfl rfl ⟨by omega, by omega⟩ (fun _ => rfl) (fun x5_47_2 ex5_47_2 => ?_)
        refine jv_goto rfl rfl ?_
        refine ih s x5_47_2 _ μ19 (by omega) (by omega) (by omega) ?_ ?_
        · rw [ex5_47_2, show (w + 1 - 0).toNat = (w - 0).toNat + 1 by omega]
          refine ⟨s, hs, ?_⟩
          rw [show 0 + (((w - 0).toNat : Nat) : Int) = w by omega]
          first
          | exact Or.inl ⟨by exact (jt_one_come hHμ.1 (by omega) (by omega) (by omega) (by omega) (by omega)).2 ⟨by unfold jt_bd; rw [← ef]; exact b32, by unfold jt_bd; rw [← ef]; exact b39⟩, rfl⟩
          | exact Or.inr ⟨by exact fun q => by have q2 := (jt_one_come hHμ.1 (by omega) (by omega) (by omega) (by omega) (by omega)).1 q; unfold jt_bd at q2; rw [← ef] at q2; first | exact b39 q2.2 | exact b32 q2.1, rfl⟩
        · exact fun z q => by rw [fμ19 z (by omega) (by omega), fμ11 z (by omega) (by omega) (by omega), hf z q]
set_option maxRecDepth 10000 in
theorem cl_uniters {X : jm_X} {d : Nat} {Q : jv_P} {μ : jm_M} {t : Int → Int} {a b : Int} (hH0 : jH μ t) (ha : 0 ≤ a ∧ a < t 0) (hb : 0 ≤ b ∧ b < t 0) (k : ∀ s μ2, jb_is (fun c => jt_one (jt_come t c) a b) 0 (t 1 - 0).toNat s → jf μ μ2 → Q [.inl s] μ2) : cV X (d + 3) 20 [.inr (.inr 49), .inr (.inr 7), .inl a, .inl b] μ Q := by
  refine jv_enter (d := d + 2) jm_p_X2_uniters [some (.inr (.inr 49)), some (.inr (.inr 7)), some (.inl a), some (.inl b), none, none, none] rfl rfl rfl (Nat.le_of_ble_eq_true rfl) rfl rfl ?_
  refine jv_iconst rfl rfl ?_
  refine jv_istoreK (L2 := [some (.inr (.inr 49)), some (.inr (.inr 7)), some (.inl a), some (.inl b), some (.inl 0), none, none]) rfl rfl rfl ?_
  refine jv_iconst rfl rfl ?_
  refine jv_istoreK (L2 := [some (.inr (.inr 49)), some (.inr (.inr 7)), some (.inl a), some (.inl b), some (.inl 0), some (.inl 0), none]) rfl rfl rfl ?_
  exact cl_uniters_l hH0 ha hb k 9 0 0 _ μ (by omega) hH0.1.2.1.1 (by have := hH0.1.2.1.2; omega) rfl (jf_id μ)
set_option maxRecDepth 10000 in
theorem mo_could_l {X : jm_X} {d : Nat} {Q : jv_P} {t : Int → Int} {a b : Int} {μ0 : jm_M} (hU0 : jU μ0 t) (hw : jt_wf t) (hcf : jt_cf t 100000) (ha : 0 ≤ a ∧ a < t 0) (hb : 0 ≤ b ∧ b < t 0) (hab : a ≠ b) (k : ∀ s μ2, jb_is (fun c => jt_one (jt_come t c) a b) 0 (t 1 - 0).toNat s → jr μ0 μ2 → Q [.inl s] μ2) : ∀ (n : Nat) (s w : Int) (μ : jm_M), 0 ≤ w → w ≤ t 1 → t 1 - w < n → jb_is (fun c => jt_one (jt_come t c) a b) 0 (w - 0).toNat s → jr μ0 μ → jV X (d + 4) jm_p_X10_could Q 17 [some (.inr (.inr 94)), some (.inl a), some (.inl b), some (.inl s), some (.inl w)] [] μ := by
  intro n
  induction n with
  | zero => intro s w μ y0 y1 yn hs hf; exfalso; omega
  | succ n ih =>
    intro s w μ y0 y1 yn hs hf
    have hUμ := jU_jr hf hU0
    have u0μ := hUμ 0 (by decide) (by decide)
    have u1μ := hUμ 1 (by decide) (by decide)
    obtain ⟨w0, w1, w2, w3, w4, w6, w7, w8⟩ := id hw
    refine jv_iload rfl rfl rfl ?_
    refine jv_aload_n rfl rfl rfl (by decide) ?_
    refine jv_getr (w := 95) rfl rfl rfl ⟨by decide, rfl⟩ rfl rfl ?_
    refine jv_iconst rfl rfl ?_
    refine jv_iaload rfl rfl (by decide) rfl ⟨by omega, by omega⟩ ?_
    refine jv_icmp_ge rfl rfl rfl (fun c22 => ?_) (fun c22 => ?_)
    · refine jv_iload_n rfl rfl rfl ?_
      refine jv_ireturn rfl (Or.inl rfl) ?_
      have hw : w = t 1 := by omega
      rw [hw] at hs
      exact k _ _ hs hf
    · refine jv_aload_n rfl rfl rfl (by decide) ?_
      refine jv_iload rfl rfl rfl ?_
      refine jv_callV1 rfl rfl rfl rfl ⟨by decide, rfl⟩ (Nat.le_of_ble_eq_true rfl) (mo_carriesIf hUμ (by omega) hw hcf (fun μ25 fμ25 tμ25 => ?_))
      show jV _ _ jm_p_X10_could _ 26 [some (.inr (.inr 94)), some (.inl a), some (.inl b), some (.inl s), some (.inl w)] [.inl (jt_y t w (t 0).toNat)] μ25
      have hUμ25 := jU_jr fμ25 hUμ
      have u0μ25 := hUμ25 0 (by decide) (by decide)
      have u1μ25 := hUμ25 1 (by decide) (by decide)
      refine jv_pop rfl rfl ?_
      refine jv_iload_n rfl rfl rfl ?_
      refine jv_aload_n rfl rfl rfl (by decide) ?_
      refine jv_sipush rfl rfl ?_
      refine jv_iload_n rfl rfl rfl ?_
      refine jv_iload_n rfl rfl rfl ?_
      refine jv_callV3 rfl rfl rfl rfl ⟨by decide, rfl⟩ (Nat.le_of_ble_eq_true rfl) (mo_oneT tμ25 (jt_come_wf hw (by omega) (by omega)) (by omega) (by omega) (fun b32 => ?_) (fun b32 => ?_))
      · show jV _ _ jm_p_X10_could _ 33 [some (.inr (.inr 94)), some (.inl a), some (.inl b), some (.inl s), some (.inl w)] [.inl 1, .inl s] μ25
        refine jv_if_eqF rfl rfl (by decide) ?_
        refine jv_iconst rfl rfl ?_
        refine jv_iload rfl rfl rfl ?_
        refine jv_ishl rfl rfl ?_
        refine jv_goto rfl rfl ?_
        refine jv_ior rfl rfl ?_
        refine jv_istore_n (fun x => [some (.inr (.inr 94)), some (.inl a), some (.inl b), some (.inl x), some (.inl w)]) rfl rfl (fun _ => rfl) (fun x3_40 ex3_40 => ?_)
        refine jv_iinc (fun x => [some (.inr (.inr 94)), some (.inl a), some (.inl b), some (.inl x3_40), some (.inl x)]) rfl rfl rfl ⟨by omega, by omega⟩ (fun _ => rfl) (fun x4_41 ex4_41 => ?_)
        refine jv_goto rfl rfl ?_
        refine ih x3_40 x4_41 μ25 (by omega) (by omega) (by omega) ?_ ?_
        · rw [ex4_41, show (w + 1 - 0).toNat = (w - 0).toNat + 1 by omega]
          refine ⟨s, hs, ?_⟩
          rw [show 0 + (((w - 0).toNat : Nat) : Int) = w by omega]
          first
          | exact Or.inl ⟨by exact b32.2, ex3_40⟩
          | exact Or.inr ⟨by exact fun q => b32 ⟨hab, q⟩, by rw [ex3_40]; exact jm_or_0 (jb_is_r _ _ hs)⟩
        · exact (jr_tr hf fμ25)
      · show jV _ _ jm_p_X10_could _ 33 [some (.inr (.inr 94)), some (.inl a), some (.inl b), some (.inl s), some (.inl w)] [.inl 0, .inl s] μ25
        refine jv_if_eqT rfl rfl (by decide) ?_
        refine jv_iconst rfl rfl ?_
        refine jv_ior rfl rfl ?_
        refine jv_istore_n (fun x => [some (.inr (.inr 94)), some (.inl a), some (.inl b), some (.inl x), some (.inl w)]) rfl rfl (fun _ => rfl) (fun x3_40_1 ex3_40_1 => ?_)
        refine jv_iinc (fun x => [some (.inr (.inr 94)), some (.inl a), some (.inl b), some (.inl x3_40_1), some (.inl x)]) rfl rfl rfl ⟨by omega, by omega⟩ (fun _ => rfl) (fun x4_41_1 ex4_41_1 => ?_)
        refine jv_goto rfl rfl ?_
        refine ih x3_40_1 x4_41_1 μ25 (by omega) (by omega) (by omega) ?_ ?_
        · rw [ex4_41_1, show (w + 1 - 0).toNat = (w - 0).toNat + 1 by omega]
          refine ⟨s, hs, ?_⟩
          rw [show 0 + (((w - 0).toNat : Nat) : Int) = w by omega]
          first
          | exact Or.inl ⟨by exact b32.2, ex3_40_1⟩
          | exact Or.inr ⟨by exact fun q => b32 ⟨hab, q⟩, by rw [ex3_40_1]; exact jm_or_0 (jb_is_r _ _ hs)⟩
        · exact (jr_tr hf fμ25)
set_option maxRecDepth 10000 in
set_option maxHeartbeats 1000000 in
theorem pr_could {X : jm_X} {a : Int} {b : Int} (r_a : jm_r a) (r_b : jm_r b) : jp X 111 197 [.inl a, .inl b] := by
  intro μ hI
  obtain ⟨⟨hit, hlan⟩, ⟨ht0, ht1, ht2⟩, ⟨hr0, hr1, hr2⟩, ⟨hst, hfa⟩, htown, hidle, himg, hpast⟩ := id hI
  obtain ⟨hwf, hcf, hkd, hmat, hrel, hh01, hhot, hnc⟩ := id htown
  obtain ⟨⟨r0, r1, r2, r3⟩, rm, rz, rc⟩ := id hrel
  obtain ⟨w0, w1, w2, w3, w4, w6, w7, w8⟩ := id hwf
  have hcf5 : jt_cf (μ 95) 100000 := fun c a b => by have q := hcf c a b; omega
  have hHμ := jH_of hI
  refine jv_enter (d := 199) jm_p_X9_could [some (.inr (.inr 0)), some (.inl a), some (.inl b)] rfl rfl rfl (Nat.le_of_ble_eq_true rfl) rfl rfl ?_
  refine jv_aload_n rfl rfl rfl (by decide) ?_
  refine jv_iload_n rfl rfl rfl ?_
  refine jv_callV1 rfl rfl rfl rfl ⟨by decide, rfl⟩ (Nat.le_of_ble_eq_true rfl) (cl_noMat (fun b2 => ?_) (fun b2 => ?_))
  · show jV _ _ jm_p_X9_could _ 3 [some (.inr (.inr 0)), some (.inl a), some (.inl b)] [.inl 1] μ
    refine jv_if_neT rfl rfl (by decide) ?_
    refine jv_ldc rfl rfl ?_
    refine jv_ireturn rfl (Or.inl rfl) ?_
    refine ⟨_, rfl, ?_⟩
    have fc : jf μ μ := jf_id μ
    have hUμ : jU μ (μ 95) := jU_jf fc
    have q94μ : μ 94 1 = μ 94 1 := by rw [fc 94 (by omega)]
    refine jv_enter (d := 199) jm_p_X10_could [some (.inr (.inr 94)), some (.inl a), some (.inl b), none, none] rfl rfl rfl (Nat.le_of_ble_eq_true rfl) rfl rfl ?_
    refine jv_aload_n rfl rfl rfl (by decide) ?_
    refine jv_iload_n rfl rfl rfl ?_
    refine jv_callV1 rfl rfl rfl rfl ⟨by decide, rfl⟩ (Nat.le_of_ble_eq_true rfl) (mo_isMat (by omega) (fun b2 => ?_) (fun b2 => ?_))
    · first
      | (exfalso; omega)
      | skip
        show jV _ _ jm_p_X10_could _ 3 [some (.inr (.inr 94)), some (.inl a), some (.inl b), none, none] [.inl 1] μ
        refine jv_if_eqF rfl rfl (by decide) ?_
        refine jv_aload_n rfl rfl rfl (by decide) ?_
        refine jv_iload_n rfl rfl rfl ?_
        refine jv_callV1 rfl rfl rfl rfl ⟨by decide, rfl⟩ (Nat.le_of_ble_eq_true rfl) (mo_isMat (by omega) (fun b6 => ?_) (fun b6 => ?_))
        · first
          | (exfalso; omega)
          | skip
            show jV _ _ jm_p_X10_could _ 7 [some (.inr (.inr 94)), some (.inl a), some (.inl b), none, none] [.inl 1] μ
            refine jv_if_eqF rfl rfl (by decide) ?_
            refine jv_iload_n rfl rfl rfl ?_
            refine jv_iload_n rfl rfl rfl ?_
            refine jv_icmp_ne rfl rfl rfl (fun c10 => ?_) (fun c10 => ?_)
            · first
              | (exfalso; omega)
              | skip
                refine jv_iconst rfl rfl ?_
                refine jv_istore_nK (L2 := [some (.inr (.inr 94)), some (.inl a), some (.inl b), some (.inl 0), none]) rfl rfl rfl ?_
                refine jv_iconst rfl rfl ?_
                refine jv_istoreK (L2 := [some (.inr (.inr 94)), some (.inl a), some (.inl b), some (.inl 0), some (.inl 0)]) rfl rfl rfl ?_
                refine mo_could_l hUμ hwf hcf5 (by omega) (by omega) (by omega) (fun s2 μz b2 fz => ?_) 9 0 0 μ (by omega) w1.1 (by omega) rfl (jr_id _)
                exact ⟨jv_one (jb_is_one _ _ _ (fun _ _ _ => Iff.rfl) b2 bμ), jI_pair hI fc fz⟩
            · first
              | (exfalso; omega)
              | skip
                refine jv_ldc rfl rfl ?_
                refine jv_ireturn rfl (Or.inl rfl) ?_
                exact ⟨jv_one (by omega), jI_pair hI fc (jr_id _)⟩
        · first
          | (exfalso; omega)
          | skip
            show jV _ _ jm_p_X10_could _ 7 [some (.inr (.inr 94)), some (.inl a), some (.inl b), none, none] [.inl 0] μ
            refine jv_if_eqT rfl rfl (by decide) ?_
            refine jv_ldc rfl rfl ?_
            refine jv_ireturn rfl (Or.inl rfl) ?_
            exact ⟨jv_one (by omega), jI_pair hI fc (jr_id _)⟩
    · first
      | (exfalso; omega)
      | skip
        show jV _ _ jm_p_X10_could _ 3 [some (.inr (.inr 94)), some (.inl a), some (.inl b), none, none] [.inl 0] μ
        refine jv_if_eqT rfl rfl (by decide) ?_
        refine jv_ldc rfl rfl ?_
        refine jv_ireturn rfl (Or.inl rfl) ?_
        exact ⟨jv_one (by omega), jI_pair hI fc (jr_id _)⟩
  · show jV _ _ jm_p_X9_could _ 3 [some (.inr (.inr 0)), some (.inl a), some (.inl b)] [.inl 0] μ
    refine jv_if_neF rfl rfl (by decide) ?_
    refine jv_aload_n rfl rfl rfl (by decide) ?_
    refine jv_iload_n rfl rfl rfl ?_
    refine jv_callV1 rfl rfl rfl rfl ⟨by decide, rfl⟩ (Nat.le_of_ble_eq_true rfl) (cl_noMat (fun b6 => ?_) (fun b6 => ?_))
    · show jV _ _ jm_p_X9_could _ 7 [some (.inr (.inr 0)), some (.inl a), some (.inl b)] [.inl 1] μ
      refine jv_if_neT rfl rfl (by decide) ?_
      refine jv_ldc rfl rfl ?_
      refine jv_ireturn rfl (Or.inl rfl) ?_
      refine ⟨_, rfl, ?_⟩
      have fc : jf μ μ := jf_id μ
      have hUμ : jU μ (μ 95) := jU_jf fc
      have q94μ : μ 94 1 = μ 94 1 := by rw [fc 94 (by omega)]
      refine jv_enter (d := 199) jm_p_X10_could [some (.inr (.inr 94)), some (.inl a), some (.inl b), none, none] rfl rfl rfl (Nat.le_of_ble_eq_true rfl) rfl rfl ?_
      refine jv_aload_n rfl rfl rfl (by decide) ?_
      refine jv_iload_n rfl rfl rfl ?_
      refine jv_callV1 rfl rfl rfl rfl ⟨by decide, rfl⟩ (Nat.le_of_ble_eq_true rfl) (mo_isMat (by omega) (fun b2 => ?_) (fun b2 => ?_))
      · first
        | (exfalso; omega)
        | skip
          show jV _ _ jm_p_X10_could _ 3 [some (.inr (.inr 94)), some (.inl a), some (.inl b), none, none] [.inl 1] μ
          refine jv_if_eqF rfl rfl (by decide) ?_
          refine jv_aload_n rfl rfl rfl (by decide) ?_
          refine jv_iload_n rfl rfl rfl ?_
          refine jv_callV1 rfl rfl rfl rfl ⟨by decide, rfl⟩ (Nat.le_of_ble_eq_true rfl) (mo_isMat (by omega) (fun b6 => ?_) (fun b6 => ?_))
          · first
            | (exfalso; omega)
            | skip
              show jV _ _ jm_p_X10_could _ 7 [some (.inr (.inr 94)), some (.inl a), some (.inl b), none, none] [.inl 1] μ
              refine jv_if_eqF rfl rfl (by decide) ?_
              refine jv_iload_n rfl rfl rfl ?_
              refine jv_iload_n rfl rfl rfl ?_
              refine jv_icmp_ne rfl rfl rfl (fun c10 => ?_) (fun c10 => ?_)
              · first
                | (exfalso; omega)
                | skip
                  refine jv_iconst rfl rfl ?_
                  refine jv_istore_nK (L2 := [some (.inr (.inr 94)), some (.inl a), some (.inl b), some (.inl 0), none]) rfl rfl rfl ?_
                  refine jv_iconst rfl rfl ?_
                  refine jv_istoreK (L2 := [some (.inr (.inr 94)), some (.inl a), some (.inl b), some (.inl 0), some (.inl 0)]) rfl rfl rfl ?_
                  refine mo_could_l hUμ hwf hcf5 (by omega) (by omega) (by omega) (fun s2 μz b2 fz => ?_) 9 0 0 μ (by omega) w1.1 (by omega) rfl (jr_id _)
                  exact ⟨jv_one (jb_is_one _ _ _ (fun _ _ _ => Iff.rfl) b2 bμ), jI_pair hI fc fz⟩
              · first
                | (exfalso; omega)
                | skip
                  refine jv_ldc rfl rfl ?_
                  refine jv_ireturn rfl (Or.inl rfl) ?_
                  exact ⟨jv_one (by omega), jI_pair hI fc (jr_id _)⟩
          · first
            | (exfalso; omega)
            | skip
              show jV _ _ jm_p_X10_could _ 7 [some (.inr (.inr 94)), some (.inl a), some (.inl b), none, none] [.inl 0] μ
              refine jv_if_eqT rfl rfl (by decide) ?_
              refine jv_ldc rfl rfl ?_
              refine jv_ireturn rfl (Or.inl rfl) ?_
              exact ⟨jv_one (by omega), jI_pair hI fc (jr_id _)⟩
      · first
        | (exfalso; omega)
        | skip
          show jV _ _ jm_p_X10_could _ 3 [some (.inr (.inr 94)), some (.inl a), some (.inl b), none, none] [.inl 0] μ
          refine jv_if_eqT rfl rfl (by decide) ?_
          refine jv_ldc rfl rfl ?_
          refine jv_ireturn rfl (Or.inl rfl) ?_
          exact ⟨jv_one (by omega), jI_pair hI fc (jr_id _)⟩
    · show jV _ _ jm_p_X9_could _ 7 [some (.inr (.inr 0)), some (.inl a), some (.inl b)] [.inl 0] μ
      refine jv_if_neF rfl rfl (by decide) ?_
      refine jv_iload_n rfl rfl rfl ?_
      refine jv_iload_n rfl rfl rfl ?_
      refine jv_icmp_ne rfl rfl rfl (fun c10 => ?_) (fun c10 => ?_)
      · refine jv_aload_n rfl rfl rfl (by decide) ?_
        refine jv_getr (w := 49) rfl rfl rfl ⟨by decide, rfl⟩ rfl rfl ?_
        refine jv_aload_n rfl rfl rfl (by decide) ?_
        refine jv_getr (w := 7) rfl rfl rfl ⟨by decide, rfl⟩ rfl rfl ?_
        refine jv_iload_n rfl rfl rfl ?_
        refine jv_iload_n rfl rfl rfl ?_
        refine jv_callV3 rfl rfl rfl rfl ⟨by decide, rfl⟩ (Nat.le_of_ble_eq_true rfl) (cl_uniters hHμ (by omega) (by omega) (fun sμ19 μ19 bμ19 fμ19 => ?_))
        show jV _ _ jm_p_X9_could _ 20 [some (.inr (.inr 0)), some (.inl a), some (.inl b)] [.inl sμ19] μ19
        refine jv_ireturn rfl (Or.inl rfl) ?_
        refine ⟨_, rfl, ?_⟩
        have fc : jf μ μ19 := fμ19
        have hUμ19 : jU μ19 (μ 95) := jU_jf fc
        have u0μ19 := hUμ19 0 (by decide) (by decide)
        have u1μ19 := hUμ19 1 (by decide) (by decide)
        have q94μ19 : μ19 94 1 = μ 94 1 := by rw [fc 94 (by omega)]
        refine jv_enter (d := 199) jm_p_X10_could [some (.inr (.inr 94)), some (.inl a), some (.inl b), none, none] rfl rfl rfl (Nat.le_of_ble_eq_true rfl) rfl rfl ?_
        refine jv_aload_n rfl rfl rfl (by decide) ?_
        refine jv_iload_n rfl rfl rfl ?_
        refine jv_callV1 rfl rfl rfl rfl ⟨by decide, rfl⟩ (Nat.le_of_ble_eq_true rfl) (mo_isMat (by omega) (fun b2 => ?_) (fun b2 => ?_))
        · first
          | (exfalso; omega)
          | skip
            show jV _ _ jm_p_X10_could _ 3 [some (.inr (.inr 94)), some (.inl a), some (.inl b), none, none] [.inl 1] μ19
            refine jv_if_eqF rfl rfl (by decide) ?_
            refine jv_aload_n rfl rfl rfl (by decide) ?_
            refine jv_iload_n rfl rfl rfl ?_
            refine jv_callV1 rfl rfl rfl rfl ⟨by decide, rfl⟩ (Nat.le_of_ble_eq_true rfl) (mo_isMat (by omega) (fun b6 => ?_) (fun b6 => ?_))
            · first
              | (exfalso; omega)
              | skip
                show jV _ _ jm_p_X10_could _ 7 [some (.inr (.inr 94)), some (.inl a), some (.inl b), none, none] [.inl 1] μ19
                refine jv_if_eqF rfl rfl (by decide) ?_
                refine jv_iload_n rfl rfl rfl ?_
                refine jv_iload_n rfl rfl rfl ?_
                refine jv_icmp_ne rfl rfl rfl (fun c10 => ?_) (fun c10 => ?_)
                · first
                  | (exfalso; omega)
                  | skip
                    refine jv_iconst rfl rfl ?_
                    refine jv_istore_nK (L2 := [some (.inr (.inr 94)), some (.inl a), some (.inl b), some (.inl 0), none]) rfl rfl rfl ?_
                    refine jv_iconst rfl rfl ?_
                    refine jv_istoreK (L2 := [some (.inr (.inr 94)), some (.inl a), some (.inl b), some (.inl 0), some (.inl 0)]) rfl rfl rfl ?_
                    refine mo_could_l hUμ19 hwf hcf5 (by omega) (by omega) (by omega) (fun s2 μz b2 fz => ?_) 9 0 0 μ19 (by omega) w1.1 (by omega) rfl (jr_id _)
                    exact ⟨jv_one (jb_is_one _ _ _ (fun _ _ _ => Iff.rfl) b2 bμ19), jI_pair hI fc fz⟩
                · first
                  | (exfalso; omega)
                  | skip
                    refine jv_ldc rfl rfl ?_
                    refine jv_ireturn rfl (Or.inl rfl) ?_
                    exact ⟨jv_one (by omega), jI_pair hI fc (jr_id _)⟩
            · first
              | (exfalso; omega)
              | skip
                show jV _ _ jm_p_X10_could _ 7 [some (.inr (.inr 94)), some (.inl a), some (.inl b), none, none] [.inl 0] μ19
                refine jv_if_eqT rfl rfl (by decide) ?_
                refine jv_ldc rfl rfl ?_
                refine jv_ireturn rfl (Or.inl rfl) ?_
                exact ⟨jv_one (by omega), jI_pair hI fc (jr_id _)⟩
        · first
          | (exfalso; omega)
          | skip
            show jV _ _ jm_p_X10_could _ 3 [some (.inr (.inr 94)), some (.inl a), some (.inl b), none, none] [.inl 0] μ19
            refine jv_if_eqT rfl rfl (by decide) ?_
            refine jv_ldc rfl rfl ?_
            refine jv_ireturn rfl (Or.inl rfl) ?_
            exact ⟨jv_one (by omega), jI_pair hI fc (jr_id _)⟩
      · refine jv_ldc rfl rfl ?_
        refine jv_ireturn rfl (Or.inl rfl) ?_
        refine ⟨_, rfl, ?_⟩
        have fc : jf μ μ := jf_id μ
        have hUμ : jU μ (μ 95) := jU_jf fc
        have q94μ : μ 94 1 = μ 94 1 := by rw [fc 94 (by omega)]
        refine jv_enter (d := 199) jm_p_X10_could [some (.inr (.inr 94)), some (.inl a), some (.inl b), none, none] rfl rfl rfl (Nat.le_of_ble_eq_true rfl) rfl rfl ?_
        refine jv_aload_n rfl rfl rfl (by decide) ?_
        refine jv_iload_n rfl rfl rfl ?_
        refine jv_callV1 rfl rfl rfl rfl ⟨by decide, rfl⟩ (Nat.le_of_ble_eq_true rfl) (mo_isMat (by omega) (fun b2 => ?_) (fun b2 => ?_))
        · first
          | (exfalso; omega)
          | skip
            show jV _ _ jm_p_X10_could _ 3 [some (.inr (.inr 94)), some (.inl a), some (.inl b), none, none] [.inl 1] μ
            refine jv_if_eqF rfl rfl (by decide) ?_
            refine jv_aload_n rfl rfl rfl (by decide) ?_
            refine jv_iload_n rfl rfl rfl ?_
            refine jv_callV1 rfl rfl rfl rfl ⟨by decide, rfl⟩ (Nat.le_of_ble_eq_true rfl) (mo_isMat (by omega) (fun b6 => ?_) (fun b6 => ?_))
            · first
              | (exfalso; omega)
              | skip
                show jV _ _ jm_p_X10_could _ 7 [some (.inr (.inr 94)), some (.inl a), some (.inl b), none, none] [.inl 1] μ
                refine jv_if_eqF rfl rfl (by decide) ?_
                refine jv_iload_n rfl rfl rfl ?_
                refine jv_iload_n rfl rfl rfl ?_
                refine jv_icmp_ne rfl rfl rfl (fun c10 => ?_) (fun c10 => ?_)
                · first
                  | (exfalso; omega)
                  | skip
                    refine jv_iconst rfl rfl ?_
                    refine jv_istore_nK (L2 := [some (.inr (.inr 94)), some (.inl a), some (.inl b), some (.inl 0), none]) rfl rfl rfl ?_
                    refine jv_iconst rfl rfl ?_
                    refine jv_istoreK (L2 := [some (.inr (.inr 94)), some (.inl a), some (.inl b), some (.inl 0), some (.inl 0)]) rfl rfl rfl ?_
                    refine mo_could_l hUμ hwf hcf5 (by omega) (by omega) (by omega) (fun s2 μz b2 fz => ?_) 9 0 0 μ (by omega) w1.1 (by omega) rfl (jr_id _)
                    exact ⟨jv_one (jb_is_one _ _ _ (fun _ _ _ => Iff.rfl) b2 bμ), jI_pair hI fc fz⟩
                · first
                  | (exfalso; omega)
                  | skip
                    refine jv_ldc rfl rfl ?_
                    refine jv_ireturn rfl (Or.inl rfl) ?_
                    exact ⟨jv_one (by omega), jI_pair hI fc (jr_id _)⟩
            · first
              | (exfalso; omega)
              | skip
                show jV _ _ jm_p_X10_could _ 7 [some (.inr (.inr 94)), some (.inl a), some (.inl b), none, none] [.inl 0] μ
                refine jv_if_eqT rfl rfl (by decide) ?_
                refine jv_ldc rfl rfl ?_
                refine jv_ireturn rfl (Or.inl rfl) ?_
                exact ⟨jv_one (by omega), jI_pair hI fc (jr_id _)⟩
        · first
          | (exfalso; omega)
          | skip
            show jV _ _ jm_p_X10_could _ 3 [some (.inr (.inr 94)), some (.inl a), some (.inl b), none, none] [.inl 0] μ
            refine jv_if_eqT rfl rfl (by decide) ?_
            refine jv_ldc rfl rfl ?_
            refine jv_ireturn rfl (Or.inl rfl) ?_
            exact ⟨jv_one (by omega), jI_pair hI fc (jr_id _)⟩
