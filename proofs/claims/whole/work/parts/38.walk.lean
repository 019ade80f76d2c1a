set_option maxRecDepth 10000 in
theorem cl_wipes {X : jm_X} {d : Nat} {Q : jv_P} {μ : jm_M} {z p y h : Int} (hz : jz_com z) (h0 : 1 ≤ μ z 0 ∧ μ z 0 ≤ 5) (h3 : 0 ≤ μ z 3 ∧ μ z 3 ≤ 9) (hh : 0 ≤ h ∧ h ≤ 60) (k : Q [.inl (jt_wip (μ z 0) (μ z 2) (μ z 3) p y h)] μ) : cV X (d + 1) 8 [.inr (.inr z), .inl p, .inl y, .inl h] μ Q := by
  refine jv_enter (d := d + 0) jm_p_X1_wipes [some (.inr (.inr z)), some (.inl p), some (.inl y), some (.inl h)] rfl rfl rfl (Nat.le_of_ble_eq_true rfl) rfl rfl ?_
  refine jv_aload_n rfl rfl rfl (by have := hz.2; omega) ?_
  refine jv_geti rfl rfl hz.1 ⟨hz.2.1, rfl⟩ (by decide) ?_
  refine jv_tsw rfl (And.intro (fun s2 => ?_) (fun ns2_4 => (And.intro (fun s2 => ?_) (fun ns2_3 => (And.intro (fun s2 => ?_) (fun ns2_2 => (And.intro (fun s2 => ?_) (fun ns2_1 => (And.intro (fun s2 => ?_) (fun ns2 => (jm_sw_1 ?_)))))))))))
  · refine jv_aload_n rfl rfl rfl (by have := hz.2; omega) ?_
    refine jv_geti rfl rfl hz.1 ⟨hz.2.1, rfl⟩ (by decide) ?_
    refine jv_ireturn rfl (Or.inl rfl) ?_
    first
    | (exfalso; omega)
    | skip
      have e : (μ z 3) = (jt_wip (μ z 0) (μ z 2) (μ z 3) p y h) := by
        unfold jt_wip
        (repeat' split) <;> omega
      rw [e]
      exact k
  · refine jv_aload_n rfl rfl rfl (by have := hz.2; omega) ?_
    refine jv_geti rfl rfl hz.1 ⟨hz.2.1, rfl⟩ (by decide) ?_
    refine jv_iload_n rfl rfl rfl ?_
    refine jv_icmp_ne rfl rfl rfl (fun c9 => ?_) (fun c9 => ?_)
    · refine jv_aload_n rfl rfl rfl (by have := hz.2; omega) ?_
      refine jv_geti rfl rfl hz.1 ⟨hz.2.1, rfl⟩ (by decide) ?_
      refine jv_ireturn rfl (Or.inl rfl) ?_
      first
      | (exfalso; omega)
      | skip
        have e : (μ z 3) = (jt_wip (μ z 0) (μ z 2) (μ z 3) p y h) := by
          unfold jt_wip
          (repeat' split) <;> omega
        rw [e]
        exact k
    · refine jv_iconst rfl rfl ?_
      refine jv_aload_n rfl rfl rfl (by have := hz.2; omega) ?_
      refine jv_geti rfl rfl hz.1 ⟨hz.2.1, rfl⟩ (by decide) ?_
      refine jv_imul rfl rfl ⟨by omega, by omega⟩ ?_
      refine jv_goto rfl rfl ?_
      refine jv_ireturn rfl (Or.inl rfl) ?_
      first
      | (exfalso; omega)
      | skip
        have e : (2 * (μ z 3)) = (jt_wip (μ z 0) (μ z 2) (μ z 3) p y h) := by
          unfold jt_wip
          (repeat' split) <;> omega
        rw [e]
        exact k
  · refine jv_iload_n rfl rfl rfl ?_
    refine jv_if_ne rfl rfl rfl (fun c19 => ?_) (fun c19 => ?_)
    · refine jv_aload_n rfl rfl rfl (by have := hz.2; omega) ?_
      refine jv_geti rfl rfl hz.1 ⟨hz.2.1, rfl⟩ (by decide) ?_
      refine jv_ireturn rfl (Or.inl rfl) ?_
      first
      | (exfalso; omega)
      | skip
        have e : (μ z 3) = (jt_wip (μ z 0) (μ z 2) (μ z 3) p y h) := by
          unfold jt_wip
          (repeat' split) <;> omega
        rw [e]
        exact k
    · refine jv_iconst rfl rfl ?_
      refine jv_goto rfl rfl ?_
      refine jv_ireturn rfl (Or.inl rfl) ?_
      first
      | (exfalso; omega)
      | skip
        have e : 0 = (jt_wip (μ z 0) (μ z 2) (μ z 3) p y h) := by
          unfold jt_wip
          (repeat' split) <;> omega
        rw [e]
        exact k
  · refine jv_iload_n rfl rfl rfl ?_
    refine jv_if_ne rfl rfl rfl (fun c26 => ?_) (fun c26 => ?_)
    · refine jv_iconst rfl rfl ?_
      refine jv_ireturn rfl (Or.inl rfl) ?_
      first
      | (exfalso; omega)
      | skip
        have e : 0 = (jt_wip (μ z 0) (μ z 2) (μ z 3) p y h) := by
          unfold jt_wip
          (repeat' split) <;> omega
        rw [e]
        exact k
    · refine jv_iload_n rfl rfl rfl ?_
      refine jv_iconst rfl rfl ?_
      refine jv_idiv rfl rfl ⟨by omega, by omega⟩ ?_
      refine jv_goto rfl rfl ?_
      refine jv_ireturn rfl (Or.inl rfl) ?_
      first
      | (exfalso; omega)
      | skip
        have e : (h / 2) = (jt_wip (μ z 0) (μ z 2) (μ z 3) p y h) := by
          unfold jt_wip
          (repeat' split) <;> omega
        rw [e]
        exact k
  · refine jv_iload_n rfl rfl rfl ?_
    refine jv_iconst rfl rfl ?_
    refine jv_idiv rfl rfl ⟨by omega, by omega⟩ ?_
    refine jv_ireturn rfl (Or.inl rfl) ?_
    first
    | (exfalso; omega)
    | skip
      have e : (h / 2) = (jt_wip (μ z 0) (μ z 2) (μ z 3) p y h) := by
        unfold jt_wip
        (repeat' split) <;> omega
      rw [e]
      exact k
  · show jV _ _ jm_p_X1_wipes _ 37 [some (.inr (.inr z)), some (.inl p), some (.inl y), some (.inl h)] [] μ
    refine jv_iconst rfl rfl ?_
    refine jv_ireturn rfl (Or.inl rfl) ?_
    first
    | (exfalso; omega)
    | skip
      have e : 0 = (jt_wip (μ z 0) (μ z 2) (μ z 3) p y h) := by
        unfold jt_wip
        (repeat' split) <;> omega
      rw [e]
      exact k
set_option maxRecDepth 10000 in
theorem cl_begin45_l {X : jm_X} {d : Nat} {Q : jv_P} {s : Int → Int} {μ0 : jm_M} (hmat : jh_mats μ0 7) (hly : ∀ m, 0 ≤ m → m < 4 → ∀ j, 0 ≤ j → j < 6 → 0 ≤ μ0 (μ0 8 m + 1) j ∧ μ0 (μ0 8 m + 1) j ≤ 60) (hs : ∀ m, 0 ≤ m → m < 4 → (μ0 (μ0 8 m + 1) 0 + μ0 (μ0 8 m + 1) 1 + μ0 (μ0 8 m + 1) 2 + μ0 (μ0 8 m + 1) 3 + μ0 (μ0 8 m + 1) 4 + μ0 (μ0 8 m + 1) 5) = s m) (k : ∀ μ2 : jm_M, (∀ z, z ≠ 46 → z ≠ 47 → z ≠ 48 → μ2 z = μ0 z) → (∀ j, 0 ≤ j → j < 4 → μ2 46 j = j ∧ μ2 47 j = s j ∧ μ2 48 j = 0) → Q [] μ2) : ∀ (n : Nat) (w : Int) (μ : jm_M), 0 ≤ w → w ≤ 4 → 4 - w < n → ((∀ z, z ≠ 46 → z ≠ 47 → z ≠ 48 → μ z = μ0 z) ∧ ∀ j, 0 ≤ j → j < w → μ 46 j = j ∧ μ 47 j = s j ∧ μ 48 j = 0) → jV X (d + 1) jm_p_X8_begin Q 2 [some (.inr (.inr 45)), some (.inr (.inr 7)), some (.inl w)] [] μ := by
  intro n
  induction n with
  | zero => intro w μ x0 x1 xn hJ; exfalso; omega
  | succ n ih =>
    intro w μ x0 x1 xn hJ
    refine jv_iload_n rfl rfl rfl ?_
    refine jv_iconst rfl rfl ?_
    refine jv_icmp_ge rfl rfl rfl (fun c4 => ?_) (fun c4 => ?_)
    · refine jv_return rfl ?_
      have hw : w = 4 := by omega
      rw [hw] at hJ
      exact k _ hJ.1 hJ.2
    · refine jv_aload_n rfl rfl rfl (by decide) ?_
      refine jv_getr (w := 46) rfl rfl rfl ⟨by decide, rfl⟩ rfl rfl ?_
      refine jv_iload_n rfl rfl rfl ?_
      refine jv_iload_n rfl rfl rfl ?_
      refine jv_iastore rfl rfl rfl (by decide) ⟨by omega, by omega⟩ (fun μ9 eμ9 => ?_)
      refine jv_aload_n rfl rfl rfl (by decide) ?_
      refine jv_getr (w := 47) rfl rfl rfl ⟨by decide, rfl⟩ rfl rfl ?_
      refine jv_iload_n rfl rfl rfl ?_
      refine jv_aload_n rfl rfl rfl (by decide) ?_
      refine jv_getr (w := 8) rfl rfl rfl ⟨by decide, rfl⟩ rfl rfl ?_
      refine jv_iload_n rfl rfl rfl ?_
      have z8 : μ9 8 w = μ0 8 w := by rw [eμ9]; show μ 8 w = μ0 8 w; rw [hJ.1 8 (by decide) (by decide) (by decide)]
      have hz0 := jz_mat7 hmat (m := w) (by omega) (by omega)
      have hp0 : μ0 8 w + 1 < 18 := by have q := hmat.1 w (by omega) (by omega); have q2 : μ0 8 w = 7 + 3 ∨ μ0 8 w = 7 + 5 ∨ μ0 8 w = 7 + 7 ∨ μ0 8 w = 7 + 9 := q; omega
      have zz : ∀ j, μ9 (μ9 8 w + 1) j = μ0 (μ0 8 w + 1) j := fun j => by rw [z8, eμ9, jm_off1 (by omega), hJ.1 _ (by omega) (by omega) (by omega)]
      have hzm : jz_mat (μ9 8 w) := by rw [z8]; exact hz0
      have hvm : ∀ j, 0 ≤ j → j < 6 → 0 ≤ μ9 (μ9 8 w + 1) j ∧ μ9 (μ9 8 w + 1) j ≤ 60 := fun j j0 j1 => by rw [zz]; exact hly w (by omega) (by omega) j j0 j1
      refine jv_aaload rfl rfl rfl ⟨by decide, by decide, by decide⟩ ⟨by omega, by omega⟩ ?_
      refine jv_callV0 rfl rfl rfl hzm.1 ⟨hzm.2.2.1, rfl⟩ (Nat.le_of_ble_eq_true rfl) (cl_lying hzm hvm ?_)
      show jV _ _ jm_p_X8_begin _ 18 [some (.inr (.inr 45)), some (.inr (.inr 7)), some (.inl w)] [.inl (μ9 ((μ9 8 w) + 1) 0 + μ9 ((μ9 8 w) + 1) 1 + μ9 ((μ9 8 w) + 1) 2 + μ9 ((μ9 8 w) + 1) 3 + μ9 ((μ9 8 w) + 1) 4 + μ9 ((μ9 8 w) + 1) 5), .inl w, .inr (.inr 47)] μ9
      refine jv_iastore rfl rfl rfl (by decide) ⟨by omega, by omega⟩ (fun μ18 eμ18 => ?_)
      refine jv_aload_n rfl rfl rfl (by decide) ?_
      refine jv_getr (w := 48) rfl rfl rfl ⟨by decide, rfl⟩ rfl rfl ?_
      refine jv_iload_n rfl rfl rfl ?_
      refine jv_iconst rfl rfl ?_
      refine jv_iastore rfl rfl rfl (by decide) ⟨by omega, by omega⟩ (fun μ23 eμ23 => ?_)
      refine jv_iinc (fun x => [some (.inr (.inr 45)), some (.inr (.inr 7)), some (.inl x)]) rfl rfl rfl ⟨by omega, by omega⟩ (fun _ => rfl) (fun x2_24 ex2_24 => ?_)
      refine jv_goto rfl rfl ?_
      refine ih x2_24 μ23 (by omega) (by omega) (by omega) ⟨fun z a1 b1 c1 => by rw [eμ23, jm_off1 c1, eμ18, jm_off1 b1, eμ9, jm_off1 a1]; exact hJ.1 z a1 b1 c1, fun j j0 j1 => ?_⟩
      have e1 : μ23 46 j = if j = w then w else μ 46 j := by rw [eμ23, eμ18, eμ9]; rfl
      have e2 : μ23 47 j = if j = w then (μ9 (μ9 8 w + 1) 0 + μ9 (μ9 8 w + 1) 1 + μ9 (μ9 8 w + 1) 2 + μ9 (μ9 8 w + 1) 3 + μ9 (μ9 8 w + 1) 4 + μ9 (μ9 8 w + 1) 5) else μ 47 j := by rw [eμ23, eμ18, eμ9]; rfl
      have e3 : μ23 48 j = if j = w then 0 else μ 48 j := by rw [eμ23, eμ18, eμ9]; rfl
      by_cases hj : j = w
      · rw [e1, e2, e3, if_pos hj, if_pos hj, if_pos hj, hj, zz, zz, zz, zz, zz, zz]
        exact ⟨rfl, hs w (by omega) (by omega), rfl⟩
      · rw [e1, e2, e3, if_neg hj, if_neg hj, if_neg hj]
        exact hJ.2 j j0 (by omega)
set_option maxRecDepth 10000 in
theorem cl_begin45 {X : jm_X} {d : Nat} {Q : jv_P} {μ : jm_M} {s : Int → Int} (hmat : jh_mats μ 7) (hly : ∀ m, 0 ≤ m → m < 4 → ∀ j, 0 ≤ j → j < 6 → 0 ≤ μ (μ 8 m + 1) j ∧ μ (μ 8 m + 1) j ≤ 60) (hs : ∀ m, 0 ≤ m → m < 4 → (μ (μ 8 m + 1) 0 + μ (μ 8 m + 1) 1 + μ (μ 8 m + 1) 2 + μ (μ 8 m + 1) 3 + μ (μ 8 m + 1) 4 + μ (μ 8 m + 1) 5) = s m) (k : ∀ μ2 : jm_M, (∀ z, z ≠ 46 → z ≠ 47 → z ≠ 48 → μ2 z = μ z) → (∀ j, 0 ≤ j → j < 4 → μ2 46 j = j ∧ μ2 47 j = s j ∧ μ2 48 j = 0) → Q [] μ2) : cV X (d + 2) 83 [.inr (.inr 45), .inr (.inr 7)] μ Q := by
  refine jv_enter (d := d + 1) jm_p_X8_begin [some (.inr (.inr 45)), some (.inr (.inr 7)), none] rfl rfl rfl (Nat.le_of_ble_eq_true rfl) rfl rfl ?_
  refine jv_iconst rfl rfl ?_
  refine jv_istore_nK (L2 := [some (.inr (.inr 45)), some (.inr (.inr 7)), some (.inl 0)]) rfl rfl rfl ?_
  exact cl_begin45_l hmat hly hs k 5 0 μ (by omega) (by omega) (by omega) ⟨fun _ _ _ _ => rfl, fun j j0 j1 => by exfalso; omega⟩
set_option maxRecDepth 10000 in
theorem cl_begin50_l {X : jm_X} {d : Nat} {Q : jv_P} {s : Int → Int} {μ0 : jm_M} (hmat : jh_mats μ0 7) (hly : ∀ m, 0 ≤ m → m < 4 → ∀ j, 0 ≤ j → j < 6 → 0 ≤ μ0 (μ0 8 m + 1) j ∧ μ0 (μ0 8 m + 1) j ≤ 60) (hs : ∀ m, 0 ≤ m → m < 4 → (μ0 (μ0 8 m + 1) 0 + μ0 (μ0 8 m + 1) 1 + μ0 (μ0 8 m + 1) 2 + μ0 (μ0 8 m + 1) 3 + μ0 (μ0 8 m + 1) 4 + μ0 (μ0 8 m + 1) 5) = s m) (k : ∀ μ2 : jm_M, (∀ z, z ≠ 51 → z ≠ 52 → z ≠ 53 → μ2 z = μ0 z) → (∀ j, 0 ≤ j → j < 4 → μ2 51 j = j ∧ μ2 52 j = s j ∧ μ2 53 j = 0) → Q [] μ2) : ∀ (n : Nat) (w : Int) (μ : jm_M), 0 ≤ w → w ≤ 4 → 4 - w < n → ((∀ z, z ≠ 51 → z ≠ 52 → z ≠ 53 → μ z = μ0 z) ∧ ∀ j, 0 ≤ j → j < w → μ 51 j = j ∧ μ 52 j = s j ∧ μ 53 j = 0) → jV X (d + 1) jm_p_X8_begin Q 2 [some (.inr (.inr 50)), some (.inr (.inr 7)), some (.inl w)] [] μ := by
  intro n
  induction n with
  | zero => intro w μ x0 x1 xn hJ; exfalso; omega
  | succ n ih =>
    intro w μ x0 x1 xn hJ
    refine jv_iload_n rfl rfl rfl ?_
    refine jv_iconst rfl rfl ?_
    refine jv_icmp_ge rfl rfl rfl (fun c4 => ?_) (fun c4 => ?_)
    · refine jv_return rfl ?_
      have hw : w = 4 := by omega
      rw [hw] at hJ
      exact k _ hJ.1 hJ.2
    · refine jv_aload_n rfl rfl rfl (by decide) ?_
      refine jv_getr (w := 51) rfl rfl rfl ⟨by decide, rfl⟩ rfl rfl ?_
      refine jv_iload_n rfl rfl rfl ?_
      refine jv_iload_n rfl rfl rfl ?_
      refine jv_iastore rfl rfl rfl (by decide) ⟨by omega, by omega⟩ (fun μ9 eμ9 => ?_)
      refine jv_aload_n rfl rfl rfl (by decide) ?_
      refine jv_getr (w := 52) rfl rfl rfl ⟨by decide, rfl⟩ rfl rfl ?_
      refine jv_iload_n rfl rfl rfl ?_
      refine jv_aload_n rfl rfl rfl (by decide) ?_
      refine jv_getr (w := 8) rfl rfl rfl ⟨by decide, rfl⟩ rfl rfl ?_
      refine jv_iload_n rfl rfl rfl ?_
      have z8 : μ9 8 w = μ0 8 w := by rw [eμ9]; show μ 8 w = μ0 8 w; rw [hJ.1 8 (by decide) (by decide) (by decide)]
      have hz0 := jz_mat7 hmat (m := w) (by omega) (by omega)
      have hp0 : μ0 8 w + 1 < 18 := by have q := hmat.1 w (by omega) (by omega); have q2 : μ0 8 w = 7 + 3 ∨ μ0 8 w = 7 + 5 ∨ μ0 8 w = 7 + 7 ∨ μ0 8 w = 7 + 9 := q; omega
      have zz : ∀ j, μ9 (μ9 8 w + 1) j = μ0 (μ0 8 w + 1) j := fun j => by rw [z8, eμ9, jm_off1 (by omega), hJ.1 _ (by omega) (by omega) (by omega)]
      have hzm : jz_mat (μ9 8 w) := by rw [z8]; exact hz0
      have hvm : ∀ j, 0 ≤ j → j < 6 → 0 ≤ μ9 (μ9 8 w + 1) j ∧ μ9 (μ9 8 w + 1) j ≤ 60 := fun j j0 j1 => by rw [zz]; exact hly w (by omega) (by omega) j j0 j1
      refine jv_aaload rfl rfl rfl ⟨by decide, by decide, by decide⟩ ⟨by omega, by omega⟩ ?_
      refine jv_callV0 rfl rfl rfl hzm.1 ⟨hzm.2.2.1, rfl⟩ (Nat.le_of_ble_eq_true rfl) (cl_lying hzm hvm ?_)
      show jV _ _ jm_p_X8_begin _ 18 [some (.inr (.inr 50)), some (.inr (.inr 7)), some (.inl w)] [.inl (μ9 ((μ9 8 w) + 1) 0 + μ9 ((μ9 8 w) + 1) 1 + μ9 ((μ9 8 w) + 1) 2 + μ9 ((μ9 8 w) + 1) 3 + μ9 ((μ9 8 w) + 1) 4 + μ9 ((μ9 8 w) + 1) 5), .inl w, .inr (.inr 52)] μ9
      refine jv_iastore rfl rfl rfl (by decide) ⟨by omega, by omega⟩ (fun μ18 eμ18 => ?_)
      refine jv_aload_n rfl rfl rfl (by decide) ?_
      refine jv_getr (w := 53) rfl rfl rfl ⟨by decide, rfl⟩ rfl rfl ?_
      refine jv_iload_n rfl rfl rfl ?_
      refine jv_iconst rfl rfl ?_
      refine jv_iastore rfl rfl rfl (by decide) ⟨by omega, by omega⟩ (fun μ23 eμ23 => ?_)
      refine jv_iinc (fun x => [some (.inr (.inr 50)), some (.inr (.inr 7)), some (.inl x)]) rfl rfl rfl ⟨by omega, by omega⟩ (fun _ => rfl) (fun x2_24 ex2_24 => ?_)
      refine jv_goto rfl rfl ?_
      refine ih x2_24 μ23 (by omega) (by omega) (by omega) ⟨fun z a1 b1 c1 => by rw [eμ23, jm_off1 c1, eμ18, jm_off1 b1, eμ9, jm_off1 a1]; exact hJ.1 z a1 b1 c1, fun j j0 j1 => ?_⟩
      have e1 : μ23 51 j = if j = w then w else μ 51 j := by rw [eμ23, eμ18, eμ9]; rfl
      have e2 : μ23 52 j = if j = w then (μ9 (μ9 8 w + 1) 0 + μ9 (μ9 8 w + 1) 1 + μ9 (μ9 8 w + 1) 2 + μ9 (μ9 8 w + 1) 3 + μ9 (μ9 8 w + 1) 4 + μ9 (μ9 8 w + 1) 5) else μ 52 j := by rw [eμ23, eμ18, eμ9]; rfl
      have e3 : μ23 53 j = if j = w then 0 else μ 53 j := by rw [eμ23, eμ18, eμ9]; rfl
      by_cases hj : j = w
      · rw [e1, e2, e3, if_pos hj, if_pos hj, if_pos hj, hj, zz, zz, zz, zz, zz, zz]
        exact ⟨rfl, hs w (by omega) (by omega), rfl⟩
      · rw [e1, e2, e3, if_neg hj, if_neg hj, if_neg hj]
        exact hJ.2 j j0 (by omega)
set_option maxRecDepth 10000 in
theorem cl_begin50 {X : jm_X} {d : Nat} {Q : jv_P} {μ : jm_M} {s : Int → Int} (hmat : jh_mats μ 7) (hly : ∀ m, 0 ≤ m → m < 4 → ∀ j, 0 ≤ j → j < 6 → 0 ≤ μ (μ 8 m + 1) j ∧ μ (μ 8 m + 1) j ≤ 60) (hs : ∀ m, 0 ≤ m → m < 4 → (μ (μ 8 m + 1) 0 + μ (μ 8 m + 1) 1 + μ (μ 8 m + 1) 2 + μ (μ 8 m + 1) 3 + μ (μ 8 m + 1) 4 + μ (μ 8 m + 1) 5) = s m) (k : ∀ μ2 : jm_M, (∀ z, z ≠ 51 → z ≠ 52 → z ≠ 53 → μ2 z = μ z) → (∀ j, 0 ≤ j → j < 4 → μ2 51 j = j ∧ μ2 52 j = s j ∧ μ2 53 j = 0) → Q [] μ2) : cV X (d + 2) 83 [.inr (.inr 50), .inr (.inr 7)] μ Q := by
  refine jv_enter (d := d + 1) jm_p_X8_begin [some (.inr (.inr 50)), some (.inr (.inr 7)), none] rfl rfl rfl (Nat.le_of_ble_eq_true rfl) rfl rfl ?_
  refine jv_iconst rfl rfl ?_
  refine jv_istore_nK (L2 := [some (.inr (.inr 50)), some (.inr (.inr 7)), some (.inl 0)]) rfl rfl rfl ?_
  exact cl_begin50_l hmat hly hs k 5 0 μ (by omega) (by omega) (by omega) ⟨fun _ _ _ _ => rfl, fun j j0 j1 => by exfalso; omega⟩
