/-! the class's small methods -/
section CB
variable {X : jm_X} {d : Nat} {P : List jm_E} {Q : jv_P} {i j : Nat} {L L2 : jm_L} {st r : List jm_V} {μ : jm_M} {pc len : Nat} {res : List Int}
theorem jv_aaloadv {z a v : Int} {kd ln : Nat} {rf : List Int} (he : P[i]? = some (pc, .aaload, len, res)) (hj : i + 1 = j) (hs : jm_SH[z.toNat]? = some (kd, ln, rf)) (hz : 0 ≤ z ∧ 2 ≤ kd ∧ kd < 5) (hb : 0 ≤ a ∧ a < ln) (hv : μ z a = v) (k : jV X d P Q j L (.inr (.inr v) :: r) μ) : jV X d P Q i L (.inl a :: .inr (.inr z) :: r) μ := by
  subst hv
  exact jv_aaload he hj hs hz hb k
theorem jv_one {a b : Int} (h : a = b) : ([.inl a] : List jm_V) = [.inl b] := by rw [h]
end CB
def jz_com (z : Int) : Prop := jm_SH[z.toNat]? = some (11, 5, [-1, -1, -1, -1, -1]) ∧ 0 ≤ z ∧ z < 94
def jz_mat (z : Int) : Prop := jm_SH[z.toNat]? = some (15, 2, [-1, z + 1]) ∧ jm_SH[(z + 1).toNat]? = some (0, 6, []) ∧ 0 ≤ z ∧ z < 94
theorem jz_com_of {z : Int} (h : z = 18 ∨ z = 19 ∨ z = 20 ∨ z = 21 ∨ z = 22 ∨ z = 23 ∨ z = 35 ∨ z = 36 ∨ z = 37 ∨ z = 38 ∨ z = 39 ∨ z = 40 ∨ z = 54 ∨ z = 71 ∨ z = 72 ∨ z = 73 ∨ z = 74 ∨ z = 75 ∨ z = 76 ∨ z = 88 ∨ z = 89 ∨ z = 90 ∨ z = 91 ∨ z = 92 ∨ z = 93) : jz_com z := by
  rcases h with rfl | rfl | rfl | rfl | rfl | rfl | rfl | rfl | rfl | rfl | rfl | rfl | rfl | rfl | rfl | rfl | rfl | rfl | rfl | rfl | rfl | rfl | rfl | rfl | rfl <;> exact ⟨rfl, by decide, by decide⟩
theorem jz_mat_of {z : Int} (h : z = 10 ∨ z = 12 ∨ z = 14 ∨ z = 16 ∨ z = 27 ∨ z = 29 ∨ z = 31 ∨ z = 33 ∨ z = 63 ∨ z = 65 ∨ z = 67 ∨ z = 69 ∨ z = 80 ∨ z = 82 ∨ z = 84 ∨ z = 86) : jz_mat z := by
  rcases h with rfl | rfl | rfl | rfl | rfl | rfl | rfl | rfl | rfl | rfl | rfl | rfl | rfl | rfl | rfl | rfl <;> exact ⟨rfl, rfl, by decide, by decide⟩
theorem jz_com7 {c : Int} (h0 : 0 ≤ c) (h1 : c < 6) : jz_com (18 + c) := jz_com_of (by omega)
theorem jz_mat7 {μ : jm_M} (h : jh_mats μ 7) {m : Int} (h0 : 0 ≤ m) (h1 : m < 4) : jz_mat (μ 8 m) := jz_mat_of (by have : μ 8 m = 7 + 3 ∨ μ 8 m = 7 + 5 ∨ μ 8 m = 7 + 7 ∨ μ 8 m = 7 + 9 := h.1 m h0 h1; omega)
set_option maxRecDepth 10000 in
theorem cl_noRow {X : jm_X} {d : Nat} {Q : jv_P} {μ : jm_M} {r : Int} (k1 : r < 0 ∨ 8 ≤ r → Q [.inl 1] μ) (k0 : ¬ (r < 0 ∨ 8 ≤ r) → Q [.inl 0] μ) : cV X (d + 1) 124 [.inl r] μ Q := by
  refine jv_enter (d := d + 0) jm_p_X9_noRow [some (.inl r)] rfl rfl rfl (Nat.le_of_ble_eq_true rfl) rfl rfl ?_
  refine jv_iload_n rfl rfl rfl ?_
  refine jv_if_lt rfl rfl rfl (fun c1 => ?_) (fun c1 => ?_)
  · refine jv_iconst rfl rfl ?_
    refine jv_goto rfl rfl ?_
    refine jv_ireturn rfl (Or.inr ⟨rfl, by decide⟩) ?_
    exact k1 (by omega)
  · refine jv_iload_n rfl rfl rfl ?_
    refine jv_bipush rfl rfl ?_
    refine jv_icmp_lt rfl rfl rfl (fun c4 => ?_) (fun c4 => ?_)
    · refine jv_iconst rfl rfl ?_
      refine jv_ireturn rfl (Or.inr ⟨rfl, by decide⟩) ?_
      exact k0 (by omega)
    · refine jv_iconst rfl rfl ?_
      refine jv_goto rfl rfl ?_
      refine jv_ireturn rfl (Or.inr ⟨rfl, by decide⟩) ?_
      exact k1 (by omega)
set_option maxRecDepth 10000 in
theorem cl_noImage {X : jm_X} {d : Nat} {Q : jv_P} {μ : jm_M} {r : Int} (k1 : r < 0 ∨ 2 ≤ r → Q [.inl 1] μ) (k0 : ¬ (r < 0 ∨ 2 ≤ r) → Q [.inl 0] μ) : cV X (d + 1) 125 [.inl r] μ Q := by
  refine jv_enter (d := d + 0) jm_p_X9_noImage [some (.inl r)] rfl rfl rfl (Nat.le_of_ble_eq_true rfl) rfl rfl ?_
  refine jv_iload_n rfl rfl rfl ?_
  refine jv_if_lt rfl rfl rfl (fun c1 => ?_) (fun c1 => ?_)
  · refine jv_iconst rfl rfl ?_
    refine jv_goto rfl rfl ?_
    refine jv_ireturn rfl (Or.inr ⟨rfl, by decide⟩) ?_
    exact k1 (by omega)
  · refine jv_iload_n rfl rfl rfl ?_
    refine jv_iconst rfl rfl ?_
    refine jv_icmp_lt rfl rfl rfl (fun c4 => ?_) (fun c4 => ?_)
    · refine jv_iconst rfl rfl ?_
      refine jv_ireturn rfl (Or.inr ⟨rfl, by decide⟩) ?_
      exact k0 (by omega)
    · refine jv_iconst rfl rfl ?_
      refine jv_goto rfl rfl ?_
      refine jv_ireturn rfl (Or.inr ⟨rfl, by decide⟩) ?_
      exact k1 (by omega)
set_option maxRecDepth 10000 in
theorem cl_noCarried {X : jm_X} {d : Nat} {Q : jv_P} {μ : jm_M} {r : Int} (k1 : r < 0 ∨ 200 < r → Q [.inl 1] μ) (k0 : ¬ (r < 0 ∨ 200 < r) → Q [.inl 0] μ) : cV X (d + 1) 126 [.inl r] μ Q := by
  refine jv_enter (d := d + 0) jm_p_X9_noCarried [some (.inl r)] rfl rfl rfl (Nat.le_of_ble_eq_true rfl) rfl rfl ?_
  refine jv_iload_n rfl rfl rfl ?_
  refine jv_if_lt rfl rfl rfl (fun c1 => ?_) (fun c1 => ?_)
  · refine jv_iconst rfl rfl ?_
    refine jv_goto rfl rfl ?_
    refine jv_ireturn rfl (Or.inr ⟨rfl, by decide⟩) ?_
    exact k1 (by omega)
  · refine jv_iload_n rfl rfl rfl ?_
    refine jv_sipush rfl rfl ?_
    refine jv_icmp_le rfl rfl rfl (fun c4 => ?_) (fun c4 => ?_)
    · refine jv_iconst rfl rfl ?_
      refine jv_ireturn rfl (Or.inr ⟨rfl, by decide⟩) ?_
      exact k0 (by omega)
    · refine jv_iconst rfl rfl ?_
      refine jv_goto rfl rfl ?_
      refine jv_ireturn rfl (Or.inr ⟨rfl, by decide⟩) ?_
      exact k1 (by omega)
set_option maxRecDepth 10000 in
theorem cl_neither {X : jm_X} {d : Nat} {Q : jv_P} {μ : jm_M} {r : Int} (k1 : r ≠ 0 ∧ r ≠ 1 → Q [.inl 1] μ) (k0 : ¬ (r ≠ 0 ∧ r ≠ 1) → Q [.inl 0] μ) : cV X (d + 1) 127 [.inl r] μ Q := by
  refine jv_enter (d := d + 0) jm_p_X9_neither [some (.inl r)] rfl rfl rfl (Nat.le_of_ble_eq_true rfl) rfl rfl ?_
  refine jv_iload_n rfl rfl rfl ?_
  refine jv_if_eq rfl rfl rfl (fun c1 => ?_) (fun c1 => ?_)
  · refine jv_iconst rfl rfl ?_
    refine jv_ireturn rfl (Or.inr ⟨rfl, by decide⟩) ?_
    exact k0 (by omega)
  · refine jv_iload_n rfl rfl rfl ?_
    refine jv_iconst rfl rfl ?_
    refine jv_icmp_eq rfl rfl rfl (fun c4 => ?_) (fun c4 => ?_)
    · refine jv_iconst rfl rfl ?_
      refine jv_ireturn rfl (Or.inr ⟨rfl, by decide⟩) ?_
      exact k0 (by omega)
    · refine jv_iconst rfl rfl ?_
      refine jv_goto rfl rfl ?_
      refine jv_ireturn rfl (Or.inr ⟨rfl, by decide⟩) ?_
      exact k1 (by omega)
set_option maxRecDepth 10000 in
theorem cl_noHotel {X : jm_X} {d : Nat} {Q : jv_P} {μ : jm_M}  (k1 : μ 7 2 = 0 → Q [.inl 1] μ) (k0 : ¬ (μ 7 2 = 0) → Q [.inl 0] μ) : cV X (d + 1) 128 [.inr (.inr 0)] μ Q := by
  refine jv_enter (d := d + 0) jm_p_X9_noHotel [some (.inr (.inr 0))] rfl rfl rfl (Nat.le_of_ble_eq_true rfl) rfl rfl ?_
  refine jv_aload_n rfl rfl rfl (by decide) ?_
  refine jv_getr (w := 7) rfl rfl rfl ⟨by decide, rfl⟩ rfl rfl ?_
  refine jv_geti rfl rfl rfl ⟨by decide, rfl⟩ (by decide) ?_
  refine jv_if_ne rfl rfl rfl (fun c3 => ?_) (fun c3 => ?_)
  · refine jv_iconst rfl rfl ?_
    refine jv_ireturn rfl (Or.inr ⟨rfl, by decide⟩) ?_
    exact k0 (by omega)
  · refine jv_iconst rfl rfl ?_
    refine jv_goto rfl rfl ?_
    refine jv_ireturn rfl (Or.inr ⟨rfl, by decide⟩) ?_
    exact k1 (by omega)
set_option maxRecDepth 10000 in
theorem cl_noComer {X : jm_X} {d : Nat} {Q : jv_P} {μ : jm_M} {c : Int} (k1 : c < 0 ∨ μ 7 3 ≤ c → Q [.inl 1] μ) (k0 : ¬ (c < 0 ∨ μ 7 3 ≤ c) → Q [.inl 0] μ) : cV X (d + 1) 129 [.inr (.inr 0), .inl c] μ Q := by
  refine jv_enter (d := d + 0) jm_p_X9_noComer [some (.inr (.inr 0)), some (.inl c)] rfl rfl rfl (Nat.le_of_ble_eq_true rfl) rfl rfl ?_
  refine jv_iload_n rfl rfl rfl ?_
  refine jv_if_lt rfl rfl rfl (fun c1 => ?_) (fun c1 => ?_)
  · refine jv_iconst rfl rfl ?_
    refine jv_goto rfl rfl ?_
    refine jv_ireturn rfl (Or.inr ⟨rfl, by decide⟩) ?_
    exact k1 (by omega)
  · refine jv_iload_n rfl rfl rfl ?_
    refine jv_aload_n rfl rfl rfl (by decide) ?_
    refine jv_getr (w := 7) rfl rfl rfl ⟨by decide, rfl⟩ rfl rfl ?_
    refine jv_geti rfl rfl rfl ⟨by decide, rfl⟩ (by decide) ?_
    refine jv_icmp_lt rfl rfl rfl (fun c6 => ?_) (fun c6 => ?_)
    · refine jv_iconst rfl rfl ?_
      refine jv_ireturn rfl (Or.inr ⟨rfl, by decide⟩) ?_
      exact k0 (by omega)
    · refine jv_iconst rfl rfl ?_
      refine jv_goto rfl rfl ?_
      refine jv_ireturn rfl (Or.inr ⟨rfl, by decide⟩) ?_
      exact k1 (by omega)
set_option maxRecDepth 10000 in
theorem cl_noMat {X : jm_X} {d : Nat} {Q : jv_P} {μ : jm_M} {c : Int} (k1 : c < 0 ∨ μ 7 2 ≤ c → Q [.inl 1] μ) (k0 : ¬ (c < 0 ∨ μ 7 2 ≤ c) → Q [.inl 0] μ) : cV X (d + 1) 130 [.inr (.inr 0), .inl c] μ Q := by
  refine jv_enter (d := d + 0) jm_p_X9_noMat [some (.inr (.inr 0)), some (.inl c)] rfl rfl rfl (Nat.le_of_ble_eq_true rfl) rfl rfl ?_
  refine jv_iload_n rfl rfl rfl ?_
  refine jv_if_lt rfl rfl rfl (fun c1 => ?_) (fun c1 => ?_)
  · refine jv_iconst rfl rfl ?_
    refine jv_goto rfl rfl ?_
    refine jv_ireturn rfl (Or.inr ⟨rfl, by decide⟩) ?_
    exact k1 (by omega)
  · refine jv_iload_n rfl rfl rfl ?_
    refine jv_aload_n rfl rfl rfl (by decide) ?_
    refine jv_getr (w := 7) rfl rfl rfl ⟨by decide, rfl⟩ rfl rfl ?_
    refine jv_geti rfl rfl rfl ⟨by decide, rfl⟩ (by decide) ?_
    refine jv_icmp_lt rfl rfl rfl (fun c6 => ?_) (fun c6 => ?_)
    · refine jv_iconst rfl rfl ?_
      refine jv_ireturn rfl (Or.inr ⟨rfl, by decide⟩) ?_
      exact k0 (by omega)
    · refine jv_iconst rfl rfl ?_
      refine jv_goto rfl rfl ?_
      refine jv_ireturn rfl (Or.inr ⟨rfl, by decide⟩) ?_
      exact k1 (by omega)
set_option maxRecDepth 10000 in
theorem cl_found {X : jm_X} {d : Nat} {Q : jv_P} {μ : jm_M} {w : Int} (hw : 0 ≤ w ∧ w ≤ 9) (k : ∀ μ2, μ2 = jm_uc μ 0 (jm_u1 (μ 0) 11 w) → Q [.inl (-1000010 - w)] μ2) : cV X (d + 1) 131 [.inr (.inr 0), .inl w] μ Q := by
  refine jv_enter (d := d + 0) jm_p_X9_found [some (.inr (.inr 0)), some (.inl w)] rfl rfl rfl (Nat.le_of_ble_eq_true rfl) rfl rfl ?_
  refine jv_aload_n rfl rfl rfl (by decide) ?_
  refine jv_iload_n rfl rfl rfl ?_
  refine jv_puti rfl rfl rfl ⟨by decide, rfl⟩ (Or.inl rfl) (fun μ2 eμ2 => ?_)
  refine jv_ldc_w rfl rfl ?_
  refine jv_iload_n rfl rfl rfl ?_
  refine jv_isub rfl rfl ⟨by omega, by omega⟩ ?_
  refine jv_ireturn rfl (Or.inl rfl) ?_
  exact k _ eμ2
set_option maxRecDepth 10000 in
theorem cl_unfound {X : jm_X} {d : Nat} {Q : jv_P} {μ : jm_M} {w : Int} (k : ∀ μ2, μ2 = jm_uc μ 0 (jm_u1 (μ 0) 11 0) → Q [.inl w] μ2) : cV X (d + 1) 132 [.inr (.inr 0), .inl w] μ Q := by
  refine jv_enter (d := d + 0) jm_p_X9_unfound [some (.inr (.inr 0)), some (.inl w)] rfl rfl rfl (Nat.le_of_ble_eq_true rfl) rfl rfl ?_
  refine jv_aload_n rfl rfl rfl (by decide) ?_
  refine jv_iconst rfl rfl ?_
  refine jv_puti rfl rfl rfl ⟨by decide, rfl⟩ (Or.inl rfl) (fun μ2 eμ2 => ?_)
  refine jv_iload_n rfl rfl rfl ?_
  refine jv_ireturn rfl (Or.inl rfl) ?_
  exact k _ eμ2
set_option maxRecDepth 10000 in
theorem cl_isMissing {X : jm_X} {d : Nat} {Q : jv_P} {μ : jm_M} {r : Int} (hr : 0 ≤ r ∧ r < 8) (k1 : μ 4 r = -1 → Q [.inl 1] μ) (k0 : ¬ (μ 4 r = -1) → Q [.inl 0] μ) : cV X (d + 1) 73 [.inr (.inr 1), .inl r] μ Q := by
  refine jv_enter (d := d + 0) jm_p_X7_isMissing [some (.inr (.inr 1)), some (.inl r)] rfl rfl rfl (Nat.le_of_ble_eq_true rfl) rfl rfl ?_
  refine jv_aload_n rfl rfl rfl (by decide) ?_
  refine jv_getr (w := 4) rfl rfl rfl ⟨by decide, rfl⟩ rfl rfl ?_
  refine jv_iload_n rfl rfl rfl ?_
  refine jv_iaload rfl rfl (by decide) rfl ⟨by omega, by omega⟩ ?_
  refine jv_iconst rfl rfl ?_
  refine jv_icmp_ne rfl rfl rfl (fun c5 => ?_) (fun c5 => ?_)
  · refine jv_iconst rfl rfl ?_
    refine jv_ireturn rfl (Or.inr ⟨rfl, by decide⟩) ?_
    exact k0 (by omega)
  · refine jv_iconst rfl rfl ?_
    refine jv_goto rfl rfl ?_
    refine jv_ireturn rfl (Or.inr ⟨rfl, by decide⟩) ?_
    exact k1 (by omega)
set_option maxRecDepth 10000 in
theorem cl_sameLane {X : jm_X} {d : Nat} {Q : jv_P} {μ : jm_M} {a b : Int} (ha : 0 ≤ a ∧ a < 8) (hb : 0 ≤ b ∧ b < 8) (k1 : μ 3 a = μ 3 b → Q [.inl 1] μ) (k0 : ¬ (μ 3 a = μ 3 b) → Q [.inl 0] μ) : cV X (d + 1) 74 [.inr (.inr 1), .inl a, .inl b] μ Q := by
  refine jv_enter (d := d + 0) jm_p_X7_sameLane [some (.inr (.inr 1)), some (.inl a), some (.inl b)] rfl rfl rfl (Nat.le_of_ble_eq_true rfl) rfl rfl ?_
  refine jv_aload_n rfl rfl rfl (by decide) ?_
  refine jv_getr (w := 3) rfl rfl rfl ⟨by decide, rfl⟩ rfl rfl ?_
  refine jv_iload_n rfl rfl rfl ?_
  refine jv_iaload rfl rfl (by decide) rfl ⟨by omega, by omega⟩ ?_
  refine jv_aload_n rfl rfl rfl (by decide) ?_
  refine jv_getr (w := 3) rfl rfl rfl ⟨by decide, rfl⟩ rfl rfl ?_
  refine jv_iload_n rfl rfl rfl ?_
  refine jv_iaload rfl rfl (by decide) rfl ⟨by omega, by omega⟩ ?_
  refine jv_icmp_ne rfl rfl rfl (fun c8 => ?_) (fun c8 => ?_)
  · refine jv_iconst rfl rfl ?_
    refine jv_ireturn rfl (Or.inr ⟨rfl, by decide⟩) ?_
    exact k0 (by omega)
  · refine jv_iconst rfl rfl ?_
    refine jv_goto rfl rfl ?_
    refine jv_ireturn rfl (Or.inr ⟨rfl, by decide⟩) ?_
    exact k1 (by omega)
set_option maxRecDepth 10000 in
theorem cl_reaches {X : jm_X} {d : Nat} {Q : jv_P} {μ : jm_M} {r a n : Int} (hr : 0 ≤ r ∧ r < 8) (hs : -1 ≤ μ 4 r ∧ μ 4 r ≤ 40) (hn : jm_r n) (k1 : 0 ≤ a ∧ 0 ≤ n ∧ a + n ≤ μ 4 r → Q [.inl 1] μ) (k0 : ¬ (0 ≤ a ∧ 0 ≤ n ∧ a + n ≤ μ 4 r) → Q [.inl 0] μ) : cV X (d + 1) 75 [.inr (.inr 1), .inl r, .inl a, .inl n] μ Q := by
  refine jv_enter (d := d + 0) jm_p_X7_reaches [some (.inr (.inr 1)), some (.inl r), some (.inl a), some (.inl n)] rfl rfl rfl (Nat.le_of_ble_eq_true rfl) rfl rfl ?_
  refine jv_iload_n rfl rfl rfl ?_
  refine jv_if_lt rfl rfl rfl (fun c1 => ?_) (fun c1 => ?_)
  · refine jv_iconst rfl rfl ?_
    refine jv_ireturn rfl (Or.inr ⟨rfl, by decide⟩) ?_
    exact k0 (by omega)
  · refine jv_iload_n rfl rfl rfl ?_
    refine jv_if_lt rfl rfl rfl (fun c3 => ?_) (fun c3 => ?_)
    · refine jv_iconst rfl rfl ?_
      refine jv_ireturn rfl (Or.inr ⟨rfl, by decide⟩) ?_
      exact k0 (by omega)
    · refine jv_iload_n rfl rfl rfl ?_
      refine jv_aload_n rfl rfl rfl (by decide) ?_
      refine jv_getr (w := 4) rfl rfl rfl ⟨by decide, rfl⟩ rfl rfl ?_
      refine jv_iload_n rfl rfl rfl ?_
      refine jv_iaload rfl rfl (by decide) rfl ⟨by omega, by omega⟩ ?_
      refine jv_iload_n rfl rfl rfl ?_
      refine jv_isub rfl rfl ⟨by omega, by omega⟩ ?_
      refine jv_icmp_gt rfl rfl rfl (fun c11 => ?_) (fun c11 => ?_)
      · refine jv_iconst rfl rfl ?_
        refine jv_ireturn rfl (Or.inr ⟨rfl, by decide⟩) ?_
        exact k0 (by omega)
      · refine jv_iconst rfl rfl ?_
        refine jv_goto rfl rfl ?_
        refine jv_ireturn rfl (Or.inr ⟨rfl, by decide⟩) ?_
        exact k1 (by omega)
set_option maxRecDepth 10000 in
theorem mo_isComer {X : jm_X} {d : Nat} {Q : jv_P} {μ : jm_M} {c : Int} (h1 : 0 ≤ μ 95 1 ∧ μ 95 1 ≤ 6) (k1 : 0 ≤ c ∧ c ≤ μ 95 1 - 1 → Q [.inl 1] μ) (k0 : ¬ (0 ≤ c ∧ c ≤ μ 95 1 - 1) → Q [.inl 0] μ) : cV X (d + 2) 164 [.inr (.inr 94), .inl c] μ Q := by
  refine jv_enter (d := d + 1) jm_p_X10_isComer [some (.inr (.inr 94)), some (.inl c)] rfl rfl rfl (Nat.le_of_ble_eq_true rfl) rfl rfl ?_
  refine jv_iload_n rfl rfl rfl ?_
  refine jv_i2l rfl rfl ?_
  refine jv_lconst rfl rfl ?_
  refine jv_aload_n rfl rfl rfl (by decide) ?_
  refine jv_getr (w := 95) rfl rfl rfl ⟨by decide, rfl⟩ rfl rfl ?_
  refine jv_iconst rfl rfl ?_
  refine jv_iaload rfl rfl (by decide) rfl ⟨by omega, by omega⟩ ?_
  refine jv_iconst rfl rfl ?_
  refine jv_isub rfl rfl ⟨by omega, by omega⟩ ?_
  refine jv_i2l rfl rfl ?_
  refine jv_callS3 rfl rfl rfl (Nat.le_of_ble_eq_true rfl) (mo_in (fun b10 => ?_) (fun b10 => ?_))
  · show jV _ _ jm_p_X10_isComer _ 11 [some (.inr (.inr 94)), some (.inl c)] [.inl 1] μ
    refine jv_ireturn rfl (Or.inr ⟨rfl, by decide⟩) ?_
    exact k1 (by omega)
  · show jV _ _ jm_p_X10_isComer _ 11 [some (.inr (.inr 94)), some (.inl c)] [.inl 0] μ
    refine jv_ireturn rfl (Or.inr ⟨rfl, by decide⟩) ?_
    exact k0 (by omega)
set_option maxRecDepth 10000 in
theorem mo_isMat {X : jm_X} {d : Nat} {Q : jv_P} {μ : jm_M} {c : Int} (h1 : 0 ≤ μ 95 0 ∧ μ 95 0 ≤ 4) (k1 : 0 ≤ c ∧ c ≤ μ 95 0 - 1 → Q [.inl 1] μ) (k0 : ¬ (0 ≤ c ∧ c ≤ μ 95 0 - 1) → Q [.inl 0] μ) : cV X (d + 2) 165 [.inr (.inr 94), .inl c] μ Q := by
  refine jv_enter (d := d + 1) jm_p_X10_isMat [some (.inr (.inr 94)), some (.inl c)] rfl rfl rfl (Nat.le_of_ble_eq_true rfl) rfl rfl ?_
  refine jv_iload_n rfl rfl rfl ?_
  refine jv_i2l rfl rfl ?_
  refine jv_lconst rfl rfl ?_
  refine jv_aload_n rfl rfl rfl (by decide) ?_
  refine jv_getr (w := 95) rfl rfl rfl ⟨by decide, rfl⟩ rfl rfl ?_
  refine jv_iconst rfl rfl ?_
  refine jv_iaload rfl rfl (by decide) rfl ⟨by omega, by omega⟩ ?_
  refine jv_iconst rfl rfl ?_
  refine jv_isub rfl rfl ⟨by omega, by omega⟩ ?_
  refine jv_i2l rfl rfl ?_
  refine jv_callS3 rfl rfl rfl (Nat.le_of_ble_eq_true rfl) (mo_in (fun b10 => ?_) (fun b10 => ?_))
  · show jV _ _ jm_p_X10_isMat _ 11 [some (.inr (.inr 94)), some (.inl c)] [.inl 1] μ
    refine jv_ireturn rfl (Or.inr ⟨rfl, by decide⟩) ?_
    exact k1 (by omega)
  · show jV _ _ jm_p_X10_isMat _ 11 [some (.inr (.inr 94)), some (.inl c)] [.inl 0] μ
    refine jv_ireturn rfl (Or.inr ⟨rfl, by decide⟩) ?_
    exact k0 (by omega)
set_option maxRecDepth 10000 in
theorem mo_isSpan {X : jm_X} {d : Nat} {Q : jv_P} {μ : jm_M} {r a n : Int} (hr : 0 ≤ r ∧ r < 8) (hs : -1 ≤ μ 98 r ∧ μ 98 r ≤ 40) (hn : jm_r n) (ha : jm_r a) (k1 : 0 ≤ a ∧ 0 ≤ n ∧ a + n ≤ μ 98 r → Q [.inl 1] μ) (k0 : ¬ (0 ≤ a ∧ 0 ≤ n ∧ a + n ≤ μ 98 r) → Q [.inl 0] μ) : cV X (d + 1) 144 [.inr (.inr 94), .inl r, .inl a, .inl n] μ Q := by
  refine jv_enter (d := d + 0) jm_p_X10_isSpan [some (.inr (.inr 94)), some (.inl r), some (.inl a), some (.inl n)] rfl rfl rfl (Nat.le_of_ble_eq_true rfl) rfl rfl ?_
  refine jv_iload_n rfl rfl rfl ?_
  refine jv_if_lt rfl rfl rfl (fun c1 => ?_) (fun c1 => ?_)
  · refine jv_iconst rfl rfl ?_
    refine jv_ireturn rfl (Or.inr ⟨rfl, by decide⟩) ?_
    exact k0 (by (try split at *) <;> omega)
  · refine jv_iload_n rfl rfl rfl ?_
    refine jv_if_lt rfl rfl rfl (fun c3 => ?_) (fun c3 => ?_)
    · refine jv_iconst rfl rfl ?_
      refine jv_ireturn rfl (Or.inr ⟨rfl, by decide⟩) ?_
      exact k0 (by (try split at *) <;> omega)
    · refine jv_iload_n rfl rfl rfl ?_
      refine jv_i2l rfl rfl ?_
      refine jv_iload_n rfl rfl rfl ?_
      refine jv_i2l rfl rfl ?_
      refine jv_ladd rfl rfl ⟨by omega, by omega⟩ ?_
      refine jv_aload_n rfl rfl rfl (by decide) ?_
      refine jv_getr (w := 98) rfl rfl rfl ⟨by decide, rfl⟩ rfl rfl ?_
      refine jv_iload_n rfl rfl rfl ?_
      refine jv_iaload rfl rfl (by decide) rfl ⟨by omega, by omega⟩ ?_
      refine jv_i2l rfl rfl ?_
      refine jv_lcmp rfl rfl ?_
      refine jv_if_gt rfl rfl rfl (fun c15 => ?_) (fun c15 => ?_)
      · refine jv_iconst rfl rfl ?_
        refine jv_ireturn rfl (Or.inr ⟨rfl, by decide⟩) ?_
        exact k0 (by (try split at *) <;> omega)
      · refine jv_iconst rfl rfl ?_
        refine jv_goto rfl rfl ?_
        refine jv_ireturn rfl (Or.inr ⟨rfl, by decide⟩) ?_
        exact k1 (by (try split at *) <;> omega)
set_option maxRecDepth 10000 in
theorem mo_has {X : jm_X} {d : Nat} {Q : jv_P} {μ : jm_M} {s k : Int} (k1 : jm_and (jm_shr s k) 1 = 1 → Q [.inl 1] μ) (k0 : ¬ (jm_and (jm_shr s k) 1 = 1) → Q [.inl 0] μ) : cV X (d + 1) 136 [.inl s, .inl k] μ Q := by
  refine jv_enter (d := d + 0) jm_p_X10_has [some (.inl s), some (.inl k)] rfl rfl rfl (Nat.le_of_ble_eq_true rfl) rfl rfl ?_
  refine jv_iload_n rfl rfl rfl ?_
  refine jv_iload_n rfl rfl rfl ?_
  refine jv_ishr rfl rfl ?_
  refine jv_iconst rfl rfl ?_
  refine jv_iand rfl rfl ?_
  refine jv_iconst rfl rfl ?_
  refine jv_icmp_ne rfl rfl rfl (fun c6 => ?_) (fun c6 => ?_)
  · refine jv_iconst rfl rfl ?_
    refine jv_ireturn rfl (Or.inr ⟨rfl, by decide⟩) ?_
    exact k0 (by omega)
  · refine jv_iconst rfl rfl ?_
    refine jv_goto rfl rfl ?_
    refine jv_ireturn rfl (Or.inr ⟨rfl, by decide⟩) ?_
    exact k1 (by omega)
set_option maxRecDepth 10000 in
theorem cl_lying {X : jm_X} {d : Nat} {Q : jv_P} {μ : jm_M} {z : Int} (hz : jz_mat z) (hv : ∀ k, 0 ≤ k → k < 6 → 0 ≤ μ (z + 1) k ∧ μ (z + 1) k ≤ 60) (k : Q [.inl (μ (z + 1) 0 + μ (z + 1) 1 + μ (z + 1) 2 + μ (z + 1) 3 + μ (z + 1) 4 + μ (z + 1) 5)] μ) : cV X (d + 1) 52 [.inr (.inr z)] μ Q := by
  have v0 := hv 0 (by decide) (by decide)
  have v1 := hv 1 (by decide) (by decide)
  have v2 := hv 2 (by decide) (by decide)
  have v3 := hv 3 (by decide) (by decide)
  have v4 := hv 4 (by decide) (by decide)
  have v5 := hv 5 (by decide) (by decide)
  refine jv_enter (d := d + 0) jm_p_X5_lying [some (.inr (.inr z)), none, none] rfl rfl rfl (Nat.le_of_ble_eq_true rfl) rfl rfl ?_
  refine jv_iconst rfl rfl ?_
  refine jv_istore_nK (L2 := [some (.inr (.inr z)), some (.inl 0), none]) rfl rfl rfl ?_
  refine jv_iconst rfl rfl ?_
  refine jv_istore_nK (L2 := [some (.inr (.inr z)), some (.inl 0), some (.inl 0)]) rfl rfl rfl ?_
  refine jv_iload_n rfl rfl rfl ?_
  refine jv_bipush rfl rfl ?_
  refine jv_icmp_geF rfl rfl (by decide) ?_
  refine jv_iload_n rfl rfl rfl ?_
  refine jv_aload_n rfl rfl rfl (by have := hz.2.2; omega) ?_
  refine jv_getr (w := (z + 1)) rfl rfl hz.1 ⟨hz.2.2.1, rfl⟩ rfl rfl ?_
  refine jv_iload_n rfl rfl rfl ?_
  refine jv_iaload rfl rfl (by have := hz.2.2; omega) hz.2.1 ⟨by omega, by omega⟩ ?_
  refine jv_iadd rfl rfl ⟨by omega, by omega⟩ ?_
  refine jv_istore_n (fun x => [some (.inr (.inr z)), some (.inl x), some (.inl 0)]) rfl rfl (fun _ => rfl) (fun x1_13 ex1_13 => ?_)
  refine jv_iincK (L2 := [some (.inr (.inr z)), some (.inl x1_13), some (.inl 1)]) rfl rfl rfl (by decide) rfl ?_
  refine jv_goto rfl rfl ?_
  refine jv_iload_n rfl rfl rfl ?_
  refine jv_bipush rfl rfl ?_
  refine jv_icmp_geF rfl rfl (by decide) ?_
  refine jv_iload_n rfl rfl rfl ?_
  refine jv_aload_n rfl rfl rfl (by have := hz.2.2; omega) ?_
  refine jv_getr (w := (z + 1)) rfl rfl hz.1 ⟨hz.2.2.1, rfl⟩ rfl rfl ?_
  refine jv_iload_n rfl rfl rfl ?_
  refine jv_iaload rfl rfl (by have := hz.2.2; omega) hz.2.1 ⟨by omega, by omega⟩ ?_
  refine jv_iadd rfl rfl ⟨by omega, by omega⟩ ?_
  refine jv_istore_n (fun x => [some (.inr (.inr z)), some (.inl x), some (.inl 1)]) rfl rfl (fun _ => rfl) (fun x1_13_1 ex1_13_1 => ?_)
  refine jv_iincK (L2 := [some (.inr (.inr z)), some (.inl x1_13_1), some (.inl 2)]) rfl rfl rfl (by decide) rfl ?_
  refine jv_goto rfl rfl ?_
  refine jv_iload_n rfl rfl rfl ?_
  refine jv_bipush rfl rfl ?_
  refine jv_icmp_geF rfl rfl (by decide) ?_
  refine jv_iload_n rfl rfl rfl ?_
  refine jv_aload_n rfl rfl rfl (by have := hz.2.2; omega) ?_
  refine jv_getr (w := (z + 1)) rfl rfl hz.1 ⟨hz.2.2.1, rfl⟩ rfl rfl ?_
  refine jv_iload_n rfl rfl rfl ?_
  refine jv_iaload rfl rfl (by have := hz.2.2; omega) hz.2.1 ⟨by omega, by omega⟩ ?_
  refine jv_iadd rfl rfl ⟨by omega, by omega⟩ ?_
  refine jv_istore_n (fun x => [some (.inr (.inr z)), some (.inl x), some (.inl 2)]) rfl rfl (fun _ => rfl) (fun x1_13_2 ex1_13_2 => ?_)
  refine jv_iincK (L2 := [some (.inr (.inr z)), some (.inl x1_13_2), some (.inl 3)]) rfl rfl rfl (by decide) rfl ?_
  refine jv_goto rfl rfl ?_
  refine jv_iload_n rfl rfl rfl ?_
  refine jv_bipush rfl rfl ?_
  refine jv_icmp_geF rfl rfl (by decide) ?_
  refine jv_iload_n rfl rfl rfl ?_
  refine jv_aload_n rfl rfl rfl (by have := hz.2.2; omega) ?_
  refine jv_getr (w := (z + 1)) rfl rfl hz.1 ⟨hz.2.2.1, rfl⟩ rfl rfl ?_
  refine jv_iload_n rfl rfl rfl ?_
  refine jv_iaload rfl rfl (by have := hz.2.2; omega) hz.2.1 ⟨by omega, by omega⟩ ?_
  refine jv_iadd rfl rfl ⟨by omega, by omega⟩ ?_
  refine jv_istore_n (fun x => [some (.inr (.inr z)), some (.inl x), some (.inl 3)]) rfl rfl (fun _ => rfl) (fun x1_13_3 ex1_13_3 => ?_)
  refine jv_iincK (L2 := [some (.inr (.inr z)), some (.inl x1_13_3), some (.inl 4)]) rfl rfl rfl (by decide) rfl ?_
  refine jv_goto rfl rfl ?_
  refine jv_iload_n rfl rfl rfl ?_
  refine jv_bipush rfl rfl ?_
  refine jv_icmp_geF rfl rfl (by decide) ?_
  refine jv_iload_n rfl rfl rfl ?_
  refine jv_aload_n rfl rfl rfl (by have := hz.2.2; omega) ?_
  refine jv_getr (w := (z + 1)) rfl rfl hz.1 ⟨hz.2.2.1, rfl⟩ rfl rfl ?_
  refine jv_iload_n rfl rfl rfl ?_
  refine jv_iaload rfl rfl (by have := hz.2.2; omega) hz.2.1 ⟨by omega, by omega⟩ ?_
  refine jv_iadd rfl rfl ⟨by omega, by omega⟩ ?_
  refine jv_istore_n (fun x => [some (.inr (.inr z)), some (.inl x), some (.inl 4)]) rfl rfl (fun _ => rfl) (fun x1_13_4 ex1_13_4 => ?_)
  refine jv_iincK (L2 := [some (.inr (.inr z)), some (.inl x1_13_4), some (.inl 5)]) rfl rfl rfl (by decide) rfl ?_
  refine jv_goto rfl rfl ?_
  refine jv_iload_n rfl rfl rfl ?_
  refine jv_bipush rfl rfl ?_
  refine jv_icmp_geF rfl rfl (by decide) ?_
  refine jv_iload_n rfl rfl rfl ?_
  refine jv_aload_n rfl rfl rfl (by have := hz.2.2; omega) ?_
  refine jv_getr (w := (z + 1)) rfl rfl hz.1 ⟨hz.2.2.1, rfl⟩ rfl rfl ?_
  refine jv_iload_n rfl rfl rfl ?_
  refine jv_iaload rfl rfl (by have := hz.2.2; omega) hz.2.1 ⟨by omega, by omega⟩ ?_
  refine jv_iadd rfl rfl ⟨by omega, by omega⟩ ?_
  refine jv_istore_n (fun x => [some (.inr (.inr z)), some (.inl x), some (.inl 5)]) rfl rfl (fun _ => rfl) (fun x1_13_5 ex1_13_5 => ?_)
  refine jv_iincK (L2 := [some (.inr (.inr z)), some (.inl x1_13_5), some (.inl 6)]) rfl rfl rfl (by decide) rfl ?_
  refine jv_goto rfl rfl ?_
  refine jv_iload_n rfl rfl rfl ?_
  refine jv_bipush rfl rfl ?_
  refine jv_icmp_geT rfl rfl (by decide) ?_
  refine jv_iload_n rfl rfl rfl ?_
  refine jv_ireturn rfl (Or.inl rfl) ?_
  have e : x1_13_5 = (μ (z + 1) 0 + μ (z + 1) 1 + μ (z + 1) 2 + μ (z + 1) 3 + μ (z + 1) 4 + μ (z + 1) 5) := by omega
  rw [e]
  exact k
