/-! the text of a hotel, read -/
def jfg (g : Int → Int) (N i : Int) : Prop := i < N ∧ 48 ≤ g i ∧ g i ≤ 57
def jps (g : Int → Int) (N a c : Int) : Int × Int × Int := if a < N ∧ g a = c then (0, a + 1, 0) else (1, a, 0)
def jpw (lo hi v a b : Int) : Int × Int × Int := if lo ≤ v ∧ v ≤ hi then (0, b, v) else (2, a, 0)
def jpn (g : Int → Int) (N a lo hi : Int) : Int × Int × Int :=
  if a < N ∧ 48 ≤ g a ∧ g a ≤ 57 then
    (if a + 1 < N ∧ 48 ≤ g (a + 1) ∧ g (a + 1) ≤ 57 then
      (if a + 2 < N ∧ 48 ≤ g (a + 2) ∧ g (a + 2) ≤ 57 then (1, a, 0) else jpw lo hi (10 * (g a - 48) + (g (a + 1) - 48)) a (a + 2))
    else jpw lo hi (g a - 48) a (a + 1))
  else (1, a, 0)
abbrev jR : Type := Int × Int × (Int → Int)
def jZ : Int → Int := fun _ => 0
def jbd (r : Int × Int × Int) (f : Int → Int → jR) : jR := if r.1 = 0 then f r.2.1 r.2.2 else (r.1, r.2.1, jZ)
theorem jbd_ok {r : Int × Int × Int} {f : Int → Int → jR} {a v : Int} (h : r = (0, a, v)) : jbd r f = f a v := by
  rw [h]
  exact if_pos rfl
theorem jbd_no {r : Int × Int × Int} {f : Int → Int → jR} {w a v : Int} (h : r = (w, a, v)) (hw : w ≠ 0) : jbd r f = (w, a, jZ) := by
  rw [h]
  exact if_neg hw
def jbR (r : jR) (f : Int → (Int → Int) → jR) : jR := if r.1 = 0 then f r.2.1 r.2.2 else (r.1, r.2.1, jZ)
theorem jbR_ok {r : jR} {f : Int → (Int → Int) → jR} {a : Int} {T : Int → Int} (h : r = (0, a, T)) : jbR r f = f a T := by
  rw [h]
  exact if_pos rfl
theorem jbR_no {r : jR} {f : Int → (Int → Int) → jR} {w a : Int} {T : Int → Int} (h : r = (w, a, T)) (hw : w ≠ 0) : jbR r f = (w, a, jZ) := by
  rw [h]
  exact if_neg hw
def jpL (g : Int → Int) (N : Int) : jR := jbd (jps g N 0 100) fun a _ => jbd (jpn g N a 1 60) fun a l => jbd (jps g N a 44) fun a _ => jbd (jpn g N a 1 9) fun a b => jbd (jps g N a 59) fun a _ => (0, a, jm_u1 (jm_u1 jZ 2 l) 3 b)
def jpM (g : Int → Int) (N : Int) : Nat → Int → (Int → Int) → jR
  | 0, a, T => (0, a, T)
  | k + 1, a, T => if a < N ∧ g a = 109 then (if T 0 = 4 then (3, a, jZ) else jbd (jpn g N (a + 1) 0 5) fun a v => jbd (jps g N a 59) fun a _ => jpM g N k a (jm_u1 (jm_u1 T (4 + T 0) v) 0 (T 0 + 1))) else (0, a, T)
def jkl (c : Int) : Int := if c = 119 then 1 else if c = 103 then 2 else if c = 116 then 3 else if c = 115 then 4 else if c = 101 then 5 else 0
def jtc4 (T : Int → Int) (kd s f m : Int) : Int → Int := jm_u1 (jm_u1 (jm_u1 (jm_u1 (jm_u1 T (32 + T 1) kd) (38 + T 1) s) (44 + T 1) f) (50 + T 1) m) 1 (T 1 + 1)
def jpC (g : Int → Int) (N : Int) : Nat → Int → (Int → Int) → jR
  | 0, a, T => (0, a, T)
  | k + 1, a, T => if a < N ∧ 0 < jkl (g a) then (if T 1 = 6 then (3, a, jZ) else jbd (jpn g N (a + 1) 0 30) fun b s => jbd (jps g N b 44) fun b _ => jbd (jpn g N b 0 5) fun b f => jbd (jps g N b 44) fun b _ => jbd (jpn g N b 1 9) fun b m => jbd (jps g N b 59) fun b _ => jpC g N k b (jtc4 T (jkl (g a)) s f m)) else if a = N then (0, a, T) else (1, a, jZ)
def jpA (g : Int → Int) (N : Int) : jR := jbR (jpL g N) fun a T => if a < N ∧ g a = 109 then jbR (jpM g N 5 a T) (fun a T => jpC g N 7 a T) else (1, a, jZ)
theorem jkl_r {c : Int} : 0 ≤ jkl c ∧ jkl c ≤ 5 := by
  unfold jkl
  (repeat' split) <;> omega
/-! the class reads -/
def jrd (μ : jm_M) (g : Int → Int) (N a : Int) : Prop := μ 5 1 = N ∧ μ 5 2 = a ∧ (0 ≤ a ∧ a ≤ N ∧ N ≤ 100) ∧ ∀ j, 0 ≤ j → j < N → μ 6 j = g j ∧ 0 ≤ g j ∧ g j ≤ 255
def jok (μ μ2 : jm_M) (g : Int → Int) (N a : Int) : Prop := jrd μ2 g N a ∧ (∀ z, z ≠ 5 → μ2 z = μ z) ∧ μ2 5 3 = μ 5 3
def jno (μ μ2 : jm_M) (N a w : Int) : Prop := (∀ z, z ≠ 5 → μ2 z = μ z) ∧ μ2 5 1 = N ∧ μ2 5 2 = a ∧ μ2 5 3 = w
theorem jrd_same {μ μ2 : jm_M} {g : Int → Int} {N a : Int} (h : jrd μ g N a) (e5 : μ2 5 = μ 5) (e6 : μ2 6 = μ 6) : jrd μ2 g N a := by
  unfold jrd at *
  rw [e5, e6]
  exact h
set_option maxRecDepth 10000 in
theorem cl_seen {X : jm_X} {d : Nat} {Q : jv_P} {μ : jm_M} {g : Int → Int} {N a : Int} (hr : jrd μ g N a) (k1 : a < N → Q [.inl (g a)] μ) (k0 : ¬ a < N → Q [.inl (-1)] μ) : cV X (d + 1) 67 [.inr (.inr 5)] μ Q := by
  obtain ⟨h1, h2, h3, h6⟩ := id hr
  have h6a := h6 a h3.1
  refine jv_enter (d := d + 0) jm_p_X6_seen [some (.inr (.inr 5))] rfl rfl rfl (Nat.le_of_ble_eq_true rfl) rfl rfl ?_
  refine jv_aload_n rfl rfl rfl (by decide) ?_
  refine jv_geti rfl rfl rfl ⟨by decide, rfl⟩ (by decide) ?_
  refine jv_aload_n rfl rfl rfl (by decide) ?_
  refine jv_geti rfl rfl rfl ⟨by decide, rfl⟩ (by decide) ?_
  refine jv_icmp_ge rfl rfl rfl (fun c4 => ?_) (fun c4 => ?_)
  · refine jv_iconst rfl rfl ?_
    refine jv_ireturn rfl (Or.inl rfl) ?_
    exact k0 (by omega)
  · refine jv_aload_n rfl rfl rfl (by decide) ?_
    refine jv_getr (w := 6) rfl rfl rfl ⟨by decide, rfl⟩ rfl rfl ?_
    refine jv_aload_n rfl rfl rfl (by decide) ?_
    refine jv_geti rfl rfl rfl ⟨by decide, rfl⟩ (by decide) ?_
    refine jv_iaload rfl rfl (by decide) rfl ⟨by omega, by omega⟩ ?_
    refine jv_goto rfl rfl ?_
    refine jv_ireturn rfl (Or.inl rfl) ?_
    have e : μ 6 (μ 5 2) = g a := by rw [h2]; exact (h6a (by omega)).1
    rw [e]
    exact k1 (by omega)
set_option maxRecDepth 10000 in
theorem cl_refuse {X : jm_X} {d : Nat} {Q : jv_P} {μ : jm_M} {w : Int} (k : ∀ μ2, μ2 = jm_uc μ 5 (jm_u1 (μ 5) 3 w) → Q [.inl 0] μ2) : cV X (d + 1) 68 [.inr (.inr 5), .inl w] μ Q := by
  refine jv_enter (d := d + 0) jm_p_X6_refuse [some (.inr (.inr 5)), some (.inl w)] rfl rfl rfl (Nat.le_of_ble_eq_true rfl) rfl rfl ?_
  refine jv_aload_n rfl rfl rfl (by decide) ?_
  refine jv_iload_n rfl rfl rfl ?_
  refine jv_puti rfl rfl rfl ⟨by decide, rfl⟩ (Or.inl rfl) (fun μ2 eμ2 => ?_)
  refine jv_iconst rfl rfl ?_
  refine jv_ireturn rfl (Or.inr ⟨rfl, by decide⟩) ?_
  exact k _ eμ2
set_option maxRecDepth 10000 in
theorem cl_takeB {X : jm_X} {d : Nat} {Q : jv_P} {μ : jm_M} {g : Int → Int} {N a c : Int} (hr : jrd μ g N a) (hc : 0 ≤ c) (k1 : ∀ μ2, jps g N a c = (0, a + 1, 0) → jok μ μ2 g N (a + 1) → Q [.inl 1] μ2) (k0 : ∀ μ2, jps g N a c = (1, a, 0) → jno μ μ2 N a 1 → Q [.inl 0] μ2) : cV X (d + 2) 69 [.inr (.inr 5), .inl c] μ Q := by
  obtain ⟨h1, h2, h3, h6⟩ := id hr
  have h6a := h6 a h3.1
  refine jv_enter (d := d + 1) jm_p_X6_takeByte [some (.inr (.inr 5)), some (.inl c)] rfl rfl rfl (Nat.le_of_ble_eq_true rfl) rfl rfl ?_
  refine jv_aload_n rfl rfl rfl (by decide) ?_
  refine jv_callV0 rfl rfl rfl rfl ⟨by decide, rfl⟩ (Nat.le_of_ble_eq_true rfl) (cl_seen hr (fun q1 => ?_) (fun q1 => ?_))
  · show jV _ _ jm_p_X6_takeByte _ 2 [some (.inr (.inr 5)), some (.inl c)] [.inl (g a)] μ
    refine jv_iload_n rfl rfl rfl ?_
    refine jv_icmp_eq rfl rfl rfl (fun c3 => ?_) (fun c3 => ?_)
    · refine jv_aload_n rfl rfl rfl (by decide) ?_
      refine jv_dupr rfl rfl ?_
      refine jv_geti rfl rfl rfl ⟨by decide, rfl⟩ (by decide) ?_
      refine jv_iconst rfl rfl ?_
      refine jv_iadd rfl rfl ⟨by omega, by omega⟩ ?_
      refine jv_puti rfl rfl rfl ⟨by decide, rfl⟩ (Or.inl rfl) (fun μ13 eμ13 => ?_)
      refine jv_iconst rfl rfl ?_
      refine jv_ireturn rfl (Or.inr ⟨rfl, by decide⟩) ?_
      refine k1 _ (by unfold jps; rw [if_pos ⟨by omega, by omega⟩]) ⟨⟨?_, ?_, by omega, fun j j0 j1 => by rw [eμ13, jm_off1 (by decide)]; exact h6 j j0 j1⟩, fun z q => by rw [eμ13, jm_off1 q], by rw [eμ13]; rfl⟩
      · rw [eμ13]; exact h1
      · rw [eμ13]; show μ 5 2 + 1 = a + 1; rw [h2]
    · refine jv_aload_n rfl rfl rfl (by decide) ?_
      refine jv_iconst rfl rfl ?_
      refine jv_callV1 rfl rfl rfl rfl ⟨by decide, rfl⟩ (Nat.le_of_ble_eq_true rfl) (cl_refuse (fun μ6 eμ6 => ?_))
      show jV _ _ jm_p_X6_takeByte _ 7 [some (.inr (.inr 5)), some (.inl c)] [.inl 0] μ6
      refine jv_ireturn rfl (Or.inr ⟨rfl, by decide⟩) ?_
      refine k0 _ (by unfold jps; rw [if_neg (fun z => by omega)]) ⟨fun z q => by rw [eμ6, jm_off1 q], ?_, ?_, by rw [eμ6]; rfl⟩
      · rw [eμ6]; exact h1
      · rw [eμ6]; exact h2
  · show jV _ _ jm_p_X6_takeByte _ 2 [some (.inr (.inr 5)), some (.inl c)] [.inl (-1)] μ
    refine jv_iload_n rfl rfl rfl ?_
    refine jv_icmp_eq rfl rfl rfl (fun c3_1 => ?_) (fun c3_1 => ?_)
    · refine jv_aload_n rfl rfl rfl (by decide) ?_
      refine jv_dupr rfl rfl ?_
      refine jv_geti rfl rfl rfl ⟨by decide, rfl⟩ (by decide) ?_
      refine jv_iconst rfl rfl ?_
      refine jv_iadd rfl rfl ⟨by omega, by omega⟩ ?_
      refine jv_puti rfl rfl rfl ⟨by decide, rfl⟩ (Or.inl rfl) (fun μ13_1 eμ13_1 => ?_)
      refine jv_iconst rfl rfl ?_
      refine jv_ireturn rfl (Or.inr ⟨rfl, by decide⟩) ?_
      refine k1 _ (by unfold jps; rw [if_pos ⟨by omega, by omega⟩]) ⟨⟨?_, ?_, by omega, fun j j0 j1 => by rw [eμ13_1, jm_off1 (by decide)]; exact h6 j j0 j1⟩, fun z q => by rw [eμ13_1, jm_off1 q], by rw [eμ13_1]; rfl⟩
      · rw [eμ13_1]; exact h1
      · rw [eμ13_1]; show μ 5 2 + 1 = a + 1; rw [h2]
    · refine jv_aload_n rfl rfl rfl (by decide) ?_
      refine jv_iconst rfl rfl ?_
      refine jv_callV1 rfl rfl rfl rfl ⟨by decide, rfl⟩ (Nat.le_of_ble_eq_true rfl) (cl_refuse (fun μ6_1 eμ6_1 => ?_))
      show jV _ _ jm_p_X6_takeByte _ 7 [some (.inr (.inr 5)), some (.inl c)] [.inl 0] μ6_1
      refine jv_ireturn rfl (Or.inr ⟨rfl, by decide⟩) ?_
      refine k0 _ (by unfold jps; rw [if_neg (fun z => by omega)]) ⟨fun z q => by rw [eμ6_1, jm_off1 q], ?_, ?_, by rw [eμ6_1]; rfl⟩
      · rw [eμ6_1]; exact h1
      · rw [eμ6_1]; exact h2
set_option maxRecDepth 10000 in
theorem cl_isFig {X : jm_X} {d : Nat} {Q : jv_P} {μ : jm_M} {c : Int} (k1 : 48 ≤ c ∧ c ≤ 57 → Q [.inl 1] μ) (k0 : ¬ (48 ≤ c ∧ c ≤ 57) → Q [.inl 0] μ) : cV X (d + 1) 71 [.inl c] μ Q := by
  refine jv_enter (d := d + 0) jm_p_X6_isFigure [some (.inl c)] rfl rfl rfl (Nat.le_of_ble_eq_true rfl) rfl rfl ?_
  refine jv_iload_n rfl rfl rfl ?_
  refine jv_bipush rfl rfl ?_
  refine jv_icmp_lt rfl rfl rfl (fun c2 => ?_) (fun c2 => ?_)
  · refine jv_iconst rfl rfl ?_
    refine jv_ireturn rfl (Or.inr ⟨rfl, by decide⟩) ?_
    exact k0 (by omega)
  · refine jv_iload_n rfl rfl rfl ?_
    refine jv_bipush rfl rfl ?_
    refine jv_icmp_gt rfl rfl rfl (fun c5 => ?_) (fun c5 => ?_)
    · refine jv_iconst rfl rfl ?_
      refine jv_ireturn rfl (Or.inr ⟨rfl, by decide⟩) ?_
      exact k0 (by omega)
    · refine jv_iconst rfl rfl ?_
      refine jv_goto rfl rfl ?_
      refine jv_ireturn rfl (Or.inr ⟨rfl, by decide⟩) ?_
      exact k1 (by omega)
set_option maxRecDepth 10000 in
theorem cl_takeN_l {X : jm_X} {d : Nat} {Q : jv_P} {g : Int → Int} {N a lo hi : Int} {μ : jm_M} (hr : jrd μ g N a) (k1 : ∀ b v μ2, jpn g N a lo hi = (0, b, v) → (lo ≤ v ∧ v ≤ hi) → (a < b ∧ b ≤ N) → jok μ μ2 g N b → Q [.inl v] μ2) (k0 : ∀ w μ2, jpn g N a lo hi = (w, a, 0) → (w = 1 ∨ w = 2) → jno μ μ2 N a w → Q [.inl (-1)] μ2) : ∀ (n : Nat) (en nu : Int), a ≤ en → en ≤ a + 3 → en ≤ N → a + 3 - en < n → (∀ j, a ≤ j → j < en → 48 ≤ g j ∧ g j ≤ 57) → (en = a → nu = 0) → (en = a + 1 → nu = g a - 48) → (en = a + 2 → nu = 10 * (g a - 48) + (g (a + 1) - 48)) → (0 ≤ nu ∧ nu ≤ 999) → (en ≤ a + 2 → nu ≤ 99) → (en ≤ a + 1 → nu ≤ 9) → jV X (d + 1) jm_p_X6_takeNumber Q 5 [some (.inr (.inr 5)), some (.inl lo), some (.inl hi), some (.inl en), some (.inl nu)] [] μ := by
  obtain ⟨h1, h2, h3, h6⟩ := id hr
  intro n
  induction n with
  | zero => intro en nu y0 y1 y2 yn hg n0 n1 n2 nr n3 n4; exfalso; omega
  | succ n ih =>
    intro en nu y0 y1 y2 yn hg n0 n1 n2 nr n3 n4
    have h6e := h6 en (by omega)
    have hga := hg a (by omega)
    have hgb := hg (a + 1) (by omega)
    have hgc := hg (a + 2) (by omega)
    refine jv_iload_n rfl rfl rfl ?_
    refine jv_aload_n rfl rfl rfl (by decide) ?_
    refine jv_geti rfl rfl rfl ⟨by decide, rfl⟩ (by decide) ?_
    refine jv_icmp_ge rfl rfl rfl (fun c8 => ?_) (fun c8 => ?_)
    · have hlast : en = a + 3 ∨ ¬ (en < N ∧ 48 ≤ g en ∧ g en ≤ 57) := by omega
      have hjp : ¬ (en = a) ∧ ¬ (en = a + 3) → jpn g N a lo hi = jpw lo hi nu a en := fun z => by
        unfold jpn
        rcases (show en = a + 1 ∨ en = a + 2 by omega) with z1 | z1
        · rw [z1] at hlast
          rw [if_pos (by omega), if_neg (by omega), n1 z1, z1]
        · rw [z1] at hlast
          rw [if_pos (by omega), if_pos (by omega), if_neg (by omega), n2 z1, z1]
      refine jv_iload_n rfl rfl rfl ?_
      refine jv_aload_n rfl rfl rfl (by decide) ?_
      refine jv_geti rfl rfl rfl ⟨by decide, rfl⟩ (by decide) ?_
      refine jv_icmp_eq rfl rfl rfl (fun c37 => ?_) (fun c37 => ?_)
      · refine jv_aload_n rfl rfl rfl (by decide) ?_
        refine jv_iconst rfl rfl ?_
        refine jv_puti rfl rfl rfl ⟨by decide, rfl⟩ (Or.inl rfl) (fun μ46 eμ46 => ?_)
        refine jv_iconst rfl rfl ?_
        refine jv_ireturn rfl (Or.inl rfl) ?_
        refine k0 1 _ ?_ (Or.inl rfl) ⟨fun z q => by rw [eμ46, jm_off1 q], by rw [eμ46]; exact h1, by rw [eμ46]; exact h2, by rw [eμ46]; rfl⟩
        unfold jpn
        by_cases z0 : a < N ∧ 48 ≤ g a ∧ g a ≤ 57
        · have hen : en = a + 3 := by
            rcases (show en = a ∨ en = a + 3 by omega) with z | z
            · exfalso
              rw [z] at h6e hlast
              omega
            · exact z
          rw [if_pos z0, if_pos (by omega), if_pos (by omega)]
        · rw [if_neg z0]
      · refine jv_iload_n rfl rfl rfl ?_
        refine jv_aload_n rfl rfl rfl (by decide) ?_
        refine jv_geti rfl rfl rfl ⟨by decide, rfl⟩ (by decide) ?_
        refine jv_iconst rfl rfl ?_
        refine jv_iadd rfl rfl ⟨by omega, by omega⟩ ?_
        refine jv_icmp_ne rfl rfl rfl (fun c43 => ?_) (fun c43 => ?_)
        · refine jv_iload rfl rfl rfl ?_
          refine jv_iload_n rfl rfl rfl ?_
          refine jv_icmp_lt rfl rfl rfl (fun c51 => ?_) (fun c51 => ?_)
          · refine jv_aload_n rfl rfl rfl (by decide) ?_
            refine jv_iconst rfl rfl ?_
            refine jv_puti rfl rfl rfl ⟨by decide, rfl⟩ (Or.inl rfl) (fun μ57 eμ57 => ?_)
            refine jv_iconst rfl rfl ?_
            refine jv_ireturn rfl (Or.inl rfl) ?_
            refine k0 2 _ ?_ (Or.inr rfl) ⟨fun z q => by rw [eμ57, jm_off1 q], by rw [eμ57]; exact h1, by rw [eμ57]; exact h2, by rw [eμ57]; rfl⟩
            have q := hjp (by omega)
            rw [q]
            unfold jpw
            rw [if_neg (by omega)]
          · refine jv_iload rfl rfl rfl ?_
            refine jv_iload_n rfl rfl rfl ?_
            refine jv_icmp_le rfl rfl rfl (fun c54 => ?_) (fun c54 => ?_)
            · refine jv_aload_n rfl rfl rfl (by decide) ?_
              refine jv_iload_n rfl rfl rfl ?_
              refine jv_puti rfl rfl rfl ⟨by decide, rfl⟩ (Or.inl rfl) (fun μ62 eμ62 => ?_)
              refine jv_iload rfl rfl rfl ?_
              refine jv_ireturn rfl (Or.inl rfl) ?_
              refine k1 en nu _ ?_ (by omega) (by omega) ⟨⟨by rw [eμ62]; exact h1, by rw [eμ62]; rfl, by omega, fun j j0 j1 => by rw [eμ62, jm_off1 (by decide)]; exact h6 j j0 j1⟩, fun z q => by rw [eμ62, jm_off1 q], by rw [eμ62]; rfl⟩
              have q := hjp (by omega)
              rw [q]
              unfold jpw
              rw [if_pos (by omega)]
            · refine jv_aload_n rfl rfl rfl (by decide) ?_
              refine jv_iconst rfl rfl ?_
              refine jv_puti rfl rfl rfl ⟨by decide, rfl⟩ (Or.inl rfl) (fun μ57_1 eμ57_1 => ?_)
              refine jv_iconst rfl rfl ?_
              refine jv_ireturn rfl (Or.inl rfl) ?_
              refine k0 2 _ ?_ (Or.inr rfl) ⟨fun z q => by rw [eμ57_1, jm_off1 q], by rw [eμ57_1]; exact h1, by rw [eμ57_1]; exact h2, by rw [eμ57_1]; rfl⟩
              have q := hjp (by omega)
              rw [q]
              unfold jpw
              rw [if_neg (by omega)]
        · refine jv_aload_n rfl rfl rfl (by decide) ?_
          refine jv_iconst rfl rfl ?_
          refine jv_puti rfl rfl rfl ⟨by decide, rfl⟩ (Or.inl rfl) (fun μ46_1 eμ46_1 => ?_)
          refine jv_iconst rfl rfl ?_
          refine jv_ireturn rfl (Or.inl rfl) ?_
          refine k0 1 _ ?_ (Or.inl rfl) ⟨fun z q => by rw [eμ46_1, jm_off1 q], by rw [eμ46_1]; exact h1, by rw [eμ46_1]; exact h2, by rw [eμ46_1]; rfl⟩
          unfold jpn
          by_cases z0 : a < N ∧ 48 ≤ g a ∧ g a ≤ 57
          · have hen : en = a + 3 := by
              rcases (show en = a ∨ en = a + 3 by omega) with z | z
              · exfalso
                rw [z] at h6e hlast
                omega
              · exact z
            rw [if_pos z0, if_pos (by omega), if_pos (by omega)]
          · rw [if_neg z0]
    · refine jv_iload_n rfl rfl rfl ?_
      refine jv_aload_n rfl rfl rfl (by decide) ?_
      refine jv_geti rfl rfl rfl ⟨by decide, rfl⟩ (by decide) ?_
      refine jv_iconst rfl rfl ?_
      refine jv_iadd rfl rfl ⟨by omega, by omega⟩ ?_
      refine jv_icmp_ge rfl rfl rfl (fun c14 => ?_) (fun c14 => ?_)
      · have hlast : en = a + 3 ∨ ¬ (en < N ∧ 48 ≤ g en ∧ g en ≤ 57) := by omega
        have hjp : ¬ (en = a) ∧ ¬ (en = a + 3) → jpn g N a lo hi = jpw lo hi nu a en := fun z => by
          unfold jpn
          rcases (show en = a + 1 ∨ en = a + 2 by omega) with z1 | z1
          · rw [z1] at hlast
            rw [if_pos (by omega), if_neg (by omega), n1 z1, z1]
          · rw [z1] at hlast
            rw [if_pos (by omega), if_pos (by omega), if_neg (by omega), n2 z1, z1]
        refine jv_iload_n rfl rfl rfl ?_
        refine jv_aload_n rfl rfl rfl (by decide) ?_
        refine jv_geti rfl rfl rfl ⟨by decide, rfl⟩ (by decide) ?_
        refine jv_icmp_eq rfl rfl rfl (fun c37_1 => ?_) (fun c37_1 => ?_)
        · refine jv_aload_n rfl rfl rfl (by decide) ?_
          refine jv_iconst rfl rfl ?_
          refine jv_puti rfl rfl rfl ⟨by decide, rfl⟩ (Or.inl rfl) (fun μ46_2 eμ46_2 => ?_)
          refine jv_iconst rfl rfl ?_
          refine jv_ireturn rfl (Or.inl rfl) ?_
          refine k0 1 _ ?_ (Or.inl rfl) ⟨fun z q => by rw [eμ46_2, jm_off1 q], by rw [eμ46_2]; exact h1, by rw [eμ46_2]; exact h2, by rw [eμ46_2]; rfl⟩
          unfold jpn
          by_cases z0 : a < N ∧ 48 ≤ g a ∧ g a ≤ 57
          · have hen : en = a + 3 := by
              rcases (show en = a ∨ en = a + 3 by omega) with z | z
              · exfalso
                rw [z] at h6e hlast
                omega
              · exact z
            rw [if_pos z0, if_pos (by omega), if_pos (by omega)]
          · rw [if_neg z0]
        · refine jv_iload_n rfl rfl rfl ?_
          refine jv_aload_n rfl rfl rfl (by decide) ?_
          refine jv_geti rfl rfl rfl ⟨by decide, rfl⟩ (by decide) ?_
          refine jv_iconst rfl rfl ?_
          refine jv_iadd rfl rfl ⟨by omega, by omega⟩ ?_
          refine jv_icmp_ne rfl rfl rfl (fun c43_1 => ?_) (fun c43_1 => ?_)
          · refine jv_iload rfl rfl rfl ?_
            refine jv_iload_n rfl rfl rfl ?_
            refine jv_icmp_lt rfl rfl rfl (fun c51_1 => ?_) (fun c51_1 => ?_)
            · refine jv_aload_n rfl rfl rfl (by decide) ?_
              refine jv_iconst rfl rfl ?_
              refine jv_puti rfl rfl rfl ⟨by decide, rfl⟩ (Or.inl rfl) (fun μ57_2 eμ57_2 => ?_)
              refine jv_iconst rfl rfl ?_
              refine jv_ireturn rfl (Or.inl rfl) ?_
              refine k0 2 _ ?_ (Or.inr rfl) ⟨fun z q => by rw [eμ57_2, jm_off1 q], by rw [eμ57_2]; exact h1, by rw [eμ57_2]; exact h2, by rw [eμ57_2]; rfl⟩
              have q := hjp (by omega)
              rw [q]
              unfold jpw
              rw [if_neg (by omega)]
            · refine jv_iload rfl rfl rfl ?_
              refine jv_iload_n rfl rfl rfl ?_
              refine jv_icmp_le rfl rfl rfl (fun c54_1 => ?_) (fun c54_1 => ?_)
              · refine jv_aload_n rfl rfl rfl (by decide) ?_
                refine jv_iload_n rfl rfl rfl ?_
                refine jv_puti rfl rfl rfl ⟨by decide, rfl⟩ (Or.inl rfl) (fun μ62_1 eμ62_1 => ?_)
                refine jv_iload rfl rfl rfl ?_
                refine jv_ireturn rfl (Or.inl rfl) ?_
                refine k1 en nu _ ?_ (by omega) (by omega) ⟨⟨by rw [eμ62_1]; exact h1, by rw [eμ62_1]; rfl, by omega, fun j j0 j1 => by rw [eμ62_1, jm_off1 (by decide)]; exact h6 j j0 j1⟩, fun z q => by rw [eμ62_1, jm_off1 q], by rw [eμ62_1]; rfl⟩
                have q := hjp (by omega)
                rw [q]
                unfold jpw
                rw [if_pos (by omega)]
              · refine jv_aload_n rfl rfl rfl (by decide) ?_
                refine jv_iconst rfl rfl ?_
                refine jv_puti rfl rfl rfl ⟨by decide, rfl⟩ (Or.inl rfl) (fun μ57_3 eμ57_3 => ?_)
                refine jv_iconst rfl rfl ?_
                refine jv_ireturn rfl (Or.inl rfl) ?_
                refine k0 2 _ ?_ (Or.inr rfl) ⟨fun z q => by rw [eμ57_3, jm_off1 q], by rw [eμ57_3]; exact h1, by rw [eμ57_3]; exact h2, by rw [eμ57_3]; rfl⟩
                have q := hjp (by omega)
                rw [q]
                unfold jpw
                rw [if_neg (by omega)]
          · refine jv_aload_n rfl rfl rfl (by decide) ?_
            refine jv_iconst rfl rfl ?_
            refine jv_puti rfl rfl rfl ⟨by decide, rfl⟩ (Or.inl rfl) (fun μ46_3 eμ46_3 => ?_)
            refine jv_iconst rfl rfl ?_
            refine jv_ireturn rfl (Or.inl rfl) ?_
            refine k0 1 _ ?_ (Or.inl rfl) ⟨fun z q => by rw [eμ46_3, jm_off1 q], by rw [eμ46_3]; exact h1, by rw [eμ46_3]; exact h2, by rw [eμ46_3]; rfl⟩
            unfold jpn
            by_cases z0 : a < N ∧ 48 ≤ g a ∧ g a ≤ 57
            · have hen : en = a + 3 := by
                rcases (show en = a ∨ en = a + 3 by omega) with z | z
                · exfalso
                  rw [z] at h6e hlast
                  omega
                · exact z
              rw [if_pos z0, if_pos (by omega), if_pos (by omega)]
            · rw [if_neg z0]
      · refine jv_aload_n rfl rfl rfl (by decide) ?_
        refine jv_getr (w := 6) rfl rfl rfl ⟨by decide, rfl⟩ rfl rfl ?_
        refine jv_iload_n rfl rfl rfl ?_
        refine jv_iaload rfl rfl (by decide) rfl ⟨by omega, by omega⟩ ?_
        rw [(h6e (by omega)).1]
        refine jv_callS1 rfl rfl rfl (Nat.le_of_ble_eq_true rfl) (cl_isFig (fun b19 => ?_) (fun b19 => ?_))
        · show jV _ _ jm_p_X6_takeNumber _ 20 [some (.inr (.inr 5)), some (.inl lo), some (.inl hi), some (.inl en), some (.inl nu)] [.inl 1] μ
          refine jv_if_eqF rfl rfl (by decide) ?_
          refine jv_iload rfl rfl rfl ?_
          refine jv_bipush rfl rfl ?_
          refine jv_imul rfl rfl ⟨by omega, by omega⟩ ?_
          refine jv_aload_n rfl rfl rfl (by decide) ?_
          refine jv_getr (w := 6) rfl rfl rfl ⟨by decide, rfl⟩ rfl rfl ?_
          refine jv_iload_n rfl rfl rfl ?_
          refine jv_iaload rfl rfl (by decide) rfl ⟨by omega, by omega⟩ ?_
          rw [(h6e (by omega)).1]
          refine jv_iadd rfl rfl ⟨by omega, by omega⟩ ?_
          refine jv_bipush rfl rfl ?_
          refine jv_isub rfl rfl ⟨by omega, by omega⟩ ?_
          refine jv_istore (fun x => [some (.inr (.inr 5)), some (.inl lo), some (.inl hi), some (.inl en), some (.inl x)]) rfl rfl (fun _ => rfl) (fun x4_31 ex4_31 => ?_)
          refine jv_iinc (fun x => [some (.inr (.inr 5)), some (.inl lo), some (.inl hi), some (.inl x), some (.inl x4_31)]) rfl rfl rfl ⟨by omega, by omega⟩ (fun _ => rfl) (fun x3_32 ex3_32 => ?_)
          refine jv_goto rfl rfl ?_
          refine ih x3_32 x4_31 (by omega) (by omega) (by omega) (by omega) (fun j j0 j1 => ?_) (by omega) (fun z => ?_) (fun z => ?_) (by omega) (by omega) (by omega)
          · by_cases hj : j < en
            · exact hg j j0 hj
            · rw [show j = en by omega]
              exact b19
          · have z2 : en = a := by omega
            have z3 := n0 z2
            rw [← z2]
            omega
          · have z2 : en = a + 1 := by omega
            have z3 := n1 z2
            rw [← z2]
            omega
        · show jV _ _ jm_p_X6_takeNumber _ 20 [some (.inr (.inr 5)), some (.inl lo), some (.inl hi), some (.inl en), some (.inl nu)] [.inl 0] μ
          refine jv_if_eqT rfl rfl (by decide) ?_
          have hlast : en = a + 3 ∨ ¬ (en < N ∧ 48 ≤ g en ∧ g en ≤ 57) := by omega
          have hjp : ¬ (en = a) ∧ ¬ (en = a + 3) → jpn g N a lo hi = jpw lo hi nu a en := fun z => by
            unfold jpn
            rcases (show en = a + 1 ∨ en = a + 2 by omega) with z1 | z1
            · rw [z1] at hlast
              rw [if_pos (by omega), if_neg (by omega), n1 z1, z1]
            · rw [z1] at hlast
              rw [if_pos (by omega), if_pos (by omega), if_neg (by omega), n2 z1, z1]
          refine jv_iload_n rfl rfl rfl ?_
          refine jv_aload_n rfl rfl rfl (by decide) ?_
          refine jv_geti rfl rfl rfl ⟨by decide, rfl⟩ (by decide) ?_
          refine jv_icmp_eq rfl rfl rfl (fun c37_2 => ?_) (fun c37_2 => ?_)
          · refine jv_aload_n rfl rfl rfl (by decide) ?_
            refine jv_iconst rfl rfl ?_
            refine jv_puti rfl rfl rfl ⟨by decide, rfl⟩ (Or.inl rfl) (fun μ46_4 eμ46_4 => ?_)
            refine jv_iconst rfl rfl ?_
            refine jv_ireturn rfl (Or.inl rfl) ?_
            refine k0 1 _ ?_ (Or.inl rfl) ⟨fun z q => by rw [eμ46_4, jm_off1 q], by rw [eμ46_4]; exact h1, by rw [eμ46_4]; exact h2, by rw [eμ46_4]; rfl⟩
            unfold jpn
            by_cases z0 : a < N ∧ 48 ≤ g a ∧ g a ≤ 57
            · have hen : en = a + 3 := by
                rcases (show en = a ∨ en = a + 3 by omega) with z | z
                · exfalso
                  rw [z] at h6e hlast
                  omega
                · exact z
              rw [if_pos z0, if_pos (by omega), if_pos (by omega)]
            · rw [if_neg z0]
          · refine jv_iload_n rfl rfl rfl ?_
            refine jv_aload_n rfl rfl rfl (by decide) ?_
            refine jv_geti rfl rfl rfl ⟨by decide, rfl⟩ (by decide) ?_
            refine jv_iconst rfl rfl ?_
            refine jv_iadd rfl rfl ⟨by omega, by omega⟩ ?_
            refine jv_icmp_ne rfl rfl rfl (fun c43_2 => ?_) (fun c43_2 => ?_)
            · refine jv_iload rfl rfl rfl ?_
              refine jv_iload_n rfl rfl rfl ?_
              refine jv_icmp_lt rfl rfl rfl (fun c51_2 => ?_) (fun c51_2 => ?_)
              · refine jv_aload_n rfl rfl rfl (by decide) ?_
                refine jv_iconst rfl rfl ?_
                refine jv_puti rfl rfl rfl ⟨by decide, rfl⟩ (Or.inl rfl) (fun μ57_4 eμ57_4 => ?_)
                refine jv_iconst rfl rfl ?_
                refine jv_ireturn rfl (Or.inl rfl) ?_
                refine k0 2 _ ?_ (Or.inr rfl) ⟨fun z q => by rw [eμ57_4, jm_off1 q], by rw [eμ57_4]; exact h1, by rw [eμ57_4]; exact h2, by rw [eμ57_4]; rfl⟩
                have q := hjp (by omega)
                rw [q]
                unfold jpw
                rw [if_neg (by omega)]
              · refine jv_iload rfl rfl rfl ?_
                refine jv_iload_n rfl rfl rfl ?_
                refine jv_icmp_le rfl rfl rfl (fun c54_2 => ?_) (fun c54_2 => ?_)
                · refine jv_aload_n rfl rfl rfl (by decide) ?_
                  refine jv_iload_n rfl rfl rfl ?_
                  refine jv_puti rfl rfl rfl ⟨by decide, rfl⟩ (Or.inl rfl) (fun μ62_2 eμ62_2 => ?_)
                  refine jv_iload rfl rfl rfl ?_
                  refine jv_ireturn rfl (Or.inl rfl) ?_
                  refine k1 en nu _ ?_ (by omega) (by omega) ⟨⟨by rw [eμ62_2]; exact h1, by rw [eμ62_2]; rfl, by omega, fun j j0 j1 => by rw [eμ62_2, jm_off1 (by decide)]; exact h6 j j0 j1⟩, fun z q => by rw [eμ62_2, jm_off1 q], by rw [eμ62_2]; rfl⟩
                  have q := hjp (by omega)
                  rw [q]
                  unfold jpw
                  rw [if_pos (by omega)]
                · refine jv_aload_n rfl rfl rfl (by decide) ?_
                  refine jv_iconst rfl rfl ?_
                  refine jv_puti rfl rfl rfl ⟨by decide, rfl⟩ (Or.inl rfl) (fun μ57_5 eμ57_5 => ?_)
                  refine jv_iconst rfl rfl ?_
                  refine jv_ireturn rfl (Or.inl rfl) ?_
                  refine k0 2 _ ?_ (Or.inr rfl) ⟨fun z q => by rw [eμ57_5, jm_off1 q], by rw [eμ57_5]; exact h1, by rw [eμ57_5]; exact h2, by rw [eμ57_5]; rfl⟩
                  have q := hjp (by omega)
                  rw [q]
                  unfold jpw
                  rw [if_neg (by omega)]
            · refine jv_aload_n rfl rfl rfl (by decide) ?_
              refine jv_iconst rfl rfl ?_
              refine jv_puti rfl rfl rfl ⟨by decide, rfl⟩ (Or.inl rfl) (fun μ46_5 eμ46_5 => ?_)
              refine jv_iconst rfl rfl ?_
              refine jv_ireturn rfl (Or.inl rfl) ?_
              refine k0 1 _ ?_ (Or.inl rfl) ⟨fun z q => by rw [eμ46_5, jm_off1 q], by rw [eμ46_5]; exact h1, by rw [eμ46_5]; exact h2, by rw [eμ46_5]; rfl⟩
              unfold jpn
              by_cases z0 : a < N ∧ 48 ≤ g a ∧ g a ≤ 57
              · have hen : en = a + 3 := by
                  rcases (show en = a ∨ en = a + 3 by omega) with z | z
                  · exfalso
                    rw [z] at h6e hlast
                    omega
                  · exact z
                rw [if_pos z0, if_pos (by omega), if_pos (by omega)]
              · rw [if_neg z0]
set_option maxRecDepth 10000 in
theorem cl_takeN {X : jm_X} {d : Nat} {Q : jv_P} {μ : jm_M} {g : Int → Int} {N a lo hi : Int} (hr : jrd μ g N a) (k1 : ∀ b v μ2, jpn g N a lo hi = (0, b, v) → (lo ≤ v ∧ v ≤ hi) → (a < b ∧ b ≤ N) → jok μ μ2 g N b → Q [.inl v] μ2) (k0 : ∀ w μ2, jpn g N a lo hi = (w, a, 0) → (w = 1 ∨ w = 2) → jno μ μ2 N a w → Q [.inl (-1)] μ2) : cV X (d + 2) 70 [.inr (.inr 5), .inl lo, .inl hi] μ Q := by
  refine jv_enter (d := d + 1) jm_p_X6_takeNumber [some (.inr (.inr 5)), some (.inl lo), some (.inl hi), none, none] rfl rfl rfl (Nat.le_of_ble_eq_true rfl) rfl rfl ?_
  refine jv_aload_n rfl rfl rfl (by decide) ?_
  refine jv_geti rfl rfl rfl ⟨by decide, rfl⟩ (by decide) ?_
  refine jv_istore_n (fun x => [some (.inr (.inr 5)), some (.inl lo), some (.inl hi), some (.inl x), none]) rfl rfl (fun _ => rfl) (fun x3_2 ex3_2 => ?_)
  refine jv_iconst rfl rfl ?_
  refine jv_istoreK (L2 := [some (.inr (.inr 5)), some (.inl lo), some (.inl hi), some (.inl x3_2), some (.inl 0)]) rfl rfl rfl ?_
  obtain ⟨h1, h2, h3, h6⟩ := id hr
  exact cl_takeN_l hr k1 k0 4 x3_2 0 (by omega) (by omega) (by omega) (by omega) (fun j j0 j1 => by exfalso; omega) (by omega) (by omega) (by omega) (by omega) (by omega) (by omega)
