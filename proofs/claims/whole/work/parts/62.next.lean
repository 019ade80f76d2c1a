set_option maxRecDepth 10000 in
theorem mo_layLine_l {X : jm_X} {d : Nat} {Q : jv_P} {n0 : Int} {μ0 : jm_M} (hn : 0 ≤ n0 ∧ n0 ≤ 6) (k : ∀ μ2 : jm_M, (∀ z, z ≠ 102 → μ2 z = μ0 z) → (∀ j, 0 ≤ j → j < n0 → μ2 102 j = j) → Q [] μ2) : ∀ (n : Nat) (w : Int) (μ : jm_M), 0 ≤ w → w ≤ n0 → n0 - w < n → (∀ z, z ≠ 102 → μ z = μ0 z) → (∀ j, 0 ≤ j → j < w → μ 102 j = j) → jV X d jm_p_X10_layLine Q 2 [some (.inr (.inr 94)), some (.inl n0), some (.inl w)] [] μ := by
  intro n
  induction n with
  | zero => intro w μ y0 y1 yn hf hr; exfalso; omega
  | succ n ih =>
    intro w μ y0 y1 yn hf hr
    refine jv_iload_n rfl rfl rfl ?_
    refine jv_iload_n rfl rfl rfl ?_
    refine jv_icmp_ge rfl rfl rfl (fun c4 => ?_) (fun c4 => ?_)
    · refine jv_return rfl ?_
      have hx : w = n0 := by omega
      rw [hx] at hr
      exact k _ hf hr
    · refine jv_aload_n rfl rfl rfl (by decide) ?_
      refine jv_getr (w := 102) rfl rfl rfl ⟨by decide, rfl⟩ rfl rfl ?_
      refine jv_iload_n rfl rfl rfl ?_
      refine jv_iload_n rfl rfl rfl ?_
      refine jv_iastore rfl rfl rfl (by decide) ⟨by omega, by omega⟩ (fun μ9 eμ9 => ?_)
      refine jv_iinc (fun x => [some (.inr (.inr 94)), some (.inl n0), some (.inl x)]) rfl rfl rfl ⟨by omega, by omega⟩ (fun _ => rfl) (fun x2_10 ex2_10 => ?_)
      refine jv_goto rfl rfl ?_
      refine ih x2_10 μ9 (by omega) (by omega) (by omega) (fun z q => by rw [eμ9, jm_off1 q, hf z q]) (fun j j0 j1 => ?_)
      rw [eμ9, jm_uc_self]
      unfold jm_u1
      split
      · omega
      · exact hr j j0 (by omega)
set_option maxRecDepth 10000 in
theorem mo_layLine {X : jm_X} {d : Nat} {Q : jv_P} {μ : jm_M} {n0 : Int} (hn : 0 ≤ n0 ∧ n0 ≤ 6) (k : ∀ μ2 : jm_M, (∀ z, z ≠ 102 → μ2 z = μ z) → (∀ j, 0 ≤ j → j < n0 → μ2 102 j = j) → Q [] μ2) : cV X (d + 1) 187 [.inr (.inr 94), .inl n0] μ Q := by
  refine jv_enter (d := d + 0) jm_p_X10_layLine [some (.inr (.inr 94)), some (.inl n0), none] rfl rfl rfl (Nat.le_of_ble_eq_true rfl) rfl rfl ?_
  refine jv_iconst rfl rfl ?_
  refine jv_istore_nK (L2 := [some (.inr (.inr 94)), some (.inl n0), some (.inl 0)]) rfl rfl rfl ?_
  exact mo_layLine_l hn k 7 0 μ (by omega) (by omega) (by omega) (fun _ _ => rfl) (fun j j0 j1 => by exfalso; omega)
set_option maxRecDepth 10000 in
theorem mo_swapLine {X : jm_X} {d : Nat} {Q : jv_P} {μ : jm_M} {a b : Int} (ha : 0 ≤ a ∧ a < 6) (hb : 0 ≤ b ∧ b < 6) (k : ∀ μ2 : jm_M, (∀ z, z ≠ 102 → μ2 z = μ z) → μ2 102 = jns (μ 102) a b → Q [] μ2) : cV X (d + 1) 188 [.inr (.inr 94), .inl a, .inl b] μ Q := by
  refine jv_enter (d := d + 0) jm_p_X10_swapLine [some (.inr (.inr 94)), some (.inl a), some (.inl b), none] rfl rfl rfl (Nat.le_of_ble_eq_true rfl) rfl rfl ?_
  refine jv_aload_n rfl rfl rfl (by decide) ?_
  refine jv_getr (w := 102) rfl rfl rfl ⟨by decide, rfl⟩ rfl rfl ?_
  refine jv_iload_n rfl rfl rfl ?_
  refine jv_iaload rfl rfl (by decide) rfl ⟨by omega, by omega⟩ ?_
  refine jv_istore_n (fun x => [some (.inr (.inr 94)), some (.inl a), some (.inl b), some (.inl x)]) rfl rfl (fun _ => rfl) (fun x3_4 ex3_4 => ?_)
  refine jv_aload_n rfl rfl rfl (by decide) ?_
  refine jv_getr (w := 102) rfl rfl rfl ⟨by decide, rfl⟩ rfl rfl ?_
  refine jv_iload_n rfl rfl rfl ?_
  refine jv_aload_n rfl rfl rfl (by decide) ?_
  refine jv_getr (w := 102) rfl rfl rfl ⟨by decide, rfl⟩ rfl rfl ?_
  refine jv_iload_n rfl rfl rfl ?_
  refine jv_iaload rfl rfl (by decide) rfl ⟨by omega, by omega⟩ ?_
  refine jv_iastore rfl rfl rfl (by decide) ⟨by omega, by omega⟩ (fun μ12 eμ12 => ?_)
  refine jv_aload_n rfl rfl rfl (by decide) ?_
  refine jv_getr (w := 102) rfl rfl rfl ⟨by decide, rfl⟩ rfl rfl ?_
  refine jv_iload_n rfl rfl rfl ?_
  refine jv_iload_n rfl rfl rfl ?_
  refine jv_iastore rfl rfl rfl (by decide) ⟨by omega, by omega⟩ (fun μ17 eμ17 => ?_)
  refine jv_return rfl ?_
  refine k _ (fun u q => by rw [eμ17, jm_uc_ne q, eμ12, jm_uc_ne q]) ?_
  rw [eμ17, jm_uc_self, eμ12, jm_uc_self, ex3_4]
  rfl
set_option maxRecDepth 10000 in
theorem mo_takeLine_l {X : jm_X} {d : Nat} {Q : jv_P} {μ0 : jm_M} (k : ∀ μ2 : jm_M, (∀ z, z ≠ 103 → μ2 z = μ0 z) → (∀ j, 0 ≤ j → j < 6 → μ2 103 j = μ0 102 j) → Q [] μ2) : ∀ (n : Nat) (w : Int) (μ : jm_M), 0 ≤ w → w ≤ 6 → 6 - w < n → (∀ z, z ≠ 103 → μ z = μ0 z) → (∀ j, 0 ≤ j → j < w → μ 103 j = μ0 102 j) → jV X d jm_p_X10_takeLine Q 2 [some (.inr (.inr 94)), some (.inl w)] [] μ := by
  intro n
  induction n with
  | zero => intro w μ y0 y1 yn hf hr; exfalso; omega
  | succ n ih =>
    intro w μ y0 y1 yn hf hr
    refine jv_iload_n rfl rfl rfl ?_
    refine jv_bipush rfl rfl ?_
    refine jv_icmp_ge rfl rfl rfl (fun c4 => ?_) (fun c4 => ?_)
    · refine jv_return rfl ?_
      have hx : w = 6 := by omega
      rw [hx] at hr
      exact k _ hf hr
    · refine jv_aload_n rfl rfl rfl (by decide) ?_
      refine jv_getr (w := 103) rfl rfl rfl ⟨by decide, rfl⟩ rfl rfl ?_
      refine jv_iload_n rfl rfl rfl ?_
      refine jv_aload_n rfl rfl rfl (by decide) ?_
      refine jv_getr (w := 102) rfl rfl rfl ⟨by decide, rfl⟩ rfl rfl ?_
      refine jv_iload_n rfl rfl rfl ?_
      refine jv_iaload rfl rfl (by decide) rfl ⟨by omega, by omega⟩ ?_
      refine jv_iastore rfl rfl rfl (by decide) ⟨by omega, by omega⟩ (fun μ12 eμ12 => ?_)
      refine jv_iinc (fun x => [some (.inr (.inr 94)), some (.inl x)]) rfl rfl rfl ⟨by omega, by omega⟩ (fun _ => rfl) (fun x1_13 ex1_13 => ?_)
      refine jv_goto rfl rfl ?_
      refine ih x1_13 μ12 (by omega) (by omega) (by omega) (fun z q => by rw [eμ12, jm_off1 q, hf z q]) (fun j j0 j1 => ?_)
      rw [eμ12, jm_uc_self]
      unfold jm_u1
      split
      · rename_i q
        rw [q, hf 102 (by decide)]
      · exact hr j j0 (by omega)
set_option maxRecDepth 10000 in
theorem mo_takeLine {X : jm_X} {d : Nat} {Q : jv_P} {μ : jm_M}  (k : ∀ μ2 : jm_M, (∀ z, z ≠ 103 → μ2 z = μ z) → (∀ j, 0 ≤ j → j < 6 → μ2 103 j = μ 102 j) → Q [] μ2) : cV X (d + 1) 189 [.inr (.inr 94)] μ Q := by
  refine jv_enter (d := d + 0) jm_p_X10_takeLine [some (.inr (.inr 94)), none] rfl rfl rfl (Nat.le_of_ble_eq_true rfl) rfl rfl ?_
  refine jv_iconst rfl rfl ?_
  refine jv_istore_nK (L2 := [some (.inr (.inr 94)), some (.inl 0)]) rfl rfl rfl ?_
  exact mo_takeLine_l k 7 0 μ (by omega) (by omega) (by omega) (fun _ _ => rfl) (fun j j0 j1 => by exfalso; omega)
set_option maxRecDepth 10000 in
theorem mo_next3 {X : jm_X} {d : Nat} {Q : jv_P} {n0 kk jj : Int} {R : Int → Int} {μ0 : jm_M} (k : ∀ μ2 : jm_M, (∀ z, z ≠ 102 → μ2 z = μ0 z) → μ2 102 = R → Q [.inl 1] μ2) : ∀ (n : Nat) (a b : Int) (μ : jm_M), 0 ≤ a → b < 6 → b - a < 2 * n → (∀ z, z ≠ 102 → μ z = μ0 z) → jrv n a b (μ 102) = R → jV X (d + 1) jm_p_X10_nextLine Q 50 [some (.inr (.inr 94)), some (.inl n0), some (.inl kk), some (.inl jj), some (.inl a), some (.inl b)] [] μ := by
  intro n
  induction n with
  | zero =>
    intro a b μ a0 b6 hn hf hr
    have hr : μ 102 = R := hr
    refine jv_iload rfl rfl rfl ?_
    refine jv_iload rfl rfl rfl ?_
    refine jv_icmp_geT rfl rfl (by omega) ?_
    refine jv_iconst rfl rfl ?_
    refine jv_ireturn rfl (Or.inr ⟨rfl, by decide⟩) ?_
    exact k _ hf hr
  | succ n ih =>
    intro a b μ a0 b6 hn hf hr
    simp only [jrv] at hr
    refine jv_iload rfl rfl rfl ?_
    refine jv_iload rfl rfl rfl ?_
    refine jv_icmp_ge rfl rfl rfl (fun c52 => ?_) (fun c52 => ?_)
    · refine jv_iconst rfl rfl ?_
      refine jv_ireturn rfl (Or.inr ⟨rfl, by decide⟩) ?_
      rw [if_neg (by omega)] at hr
      exact k _ hf hr
    · refine jv_aload_n rfl rfl rfl (by decide) ?_
      refine jv_iload rfl rfl rfl ?_
      refine jv_iload rfl rfl rfl ?_
      refine jv_callV2 rfl rfl rfl rfl ⟨by decide, rfl⟩ (Nat.le_of_ble_eq_true rfl) (mo_swapLine (by omega) (by omega) (fun μ56 fμ56 gμ56 => ?_))
      show jV _ _ jm_p_X10_nextLine _ 57 [some (.inr (.inr 94)), some (.inl n0), some (.inl kk), some (.inl jj), some (.inl a), some (.inl b)] [] μ56
      refine jv_iinc (fun x => [some (.inr (.inr 94)), some (.inl n0), some (.inl kk), some (.inl jj), some (.inl x), some (.inl b)]) rfl rfl rfl ⟨by omega, by omega⟩ (fun _ => rfl) (fun x4_57 ex4_57 => ?_)
      refine jv_iinc (fun x => [some (.inr (.inr 94)), some (.inl n0), some (.inl kk), some (.inl jj), some (.inl x4_57), some (.inl x)]) rfl rfl rfl ⟨by omega, by omega⟩ (fun _ => rfl) (fun x5_58 ex5_58 => ?_)
      refine jv_goto rfl rfl ?_
      rw [if_pos (by omega)] at hr
      refine ih x4_57 x5_58 μ56 (by omega) (by omega) (by omega) (fun z q => by rw [fμ56 z q, hf z q]) ?_
      rw [gμ56, ex4_57, ex5_58]
      exact hr
set_option maxRecDepth 10000 in
theorem mo_next2 {X : jm_X} {d : Nat} {Q : jv_P} {n0 kk : Int} {μ : jm_M} (hn : 1 ≤ n0 ∧ n0 ≤ 6) (hk : 0 ≤ kk ∧ kk + 1 < n0) (hle : μ 102 kk ≤ μ 102 (kk + 1)) (k : ∀ μ2 : jm_M, (∀ z, z ≠ 102 → μ2 z = μ z) → μ2 102 = jrv 6 (kk + 1) (n0 - 1) (jns (μ 102) kk (jnj (μ 102) (μ 102 kk) (n0.toNat - 1))) → Q [.inl 1] μ2) : ∀ (m : Nat) (jj : Int), jj = m → kk + 1 ≤ jj → jj < n0 → jnj (μ 102) (μ 102 kk) (n0.toNat - 1) = jnj (μ 102) (μ 102 kk) m → jV X (d + 1) jm_p_X10_nextLine Q 27 [some (.inr (.inr 94)), some (.inl n0), some (.inl kk), some (.inl jj), none, none] [] μ := by
  intro m
  induction m with
  | zero => intro jj e h1 h2 hj; exfalso; omega
  | succ m ih =>
    intro jj e h1 h2 hj
    simp only [jnj] at hj
    rw [show ((m : Nat) : Int) + 1 = jj by omega] at hj
    refine jv_aload_n rfl rfl rfl (by decide) ?_
    refine jv_getr (w := 102) rfl rfl rfl ⟨by decide, rfl⟩ rfl rfl ?_
    refine jv_iload_n rfl rfl rfl ?_
    refine jv_iaload rfl rfl (by decide) rfl ⟨by omega, by omega⟩ ?_
    refine jv_aload_n rfl rfl rfl (by decide) ?_
    refine jv_getr (w := 102) rfl rfl rfl ⟨by decide, rfl⟩ rfl rfl ?_
    refine jv_iload_n rfl rfl rfl ?_
    refine jv_iaload rfl rfl (by decide) rfl ⟨by omega, by omega⟩ ?_
    refine jv_icmp_ge rfl rfl rfl (fun c35 => ?_) (fun c35 => ?_)
    · rw [if_neg (by omega)] at hj
      refine jv_aload_n rfl rfl rfl (by decide) ?_
      refine jv_iload_n rfl rfl rfl ?_
      refine jv_iload_n rfl rfl rfl ?_
      refine jv_callV2 rfl rfl rfl rfl ⟨by decide, rfl⟩ (Nat.le_of_ble_eq_true rfl) (mo_swapLine (by omega) (by omega) (fun μ41 fμ41 gμ41 => ?_))
      show jV _ _ jm_p_X10_nextLine _ 42 [some (.inr (.inr 94)), some (.inl n0), some (.inl kk), some (.inl jj), none, none] [] μ41
      refine jv_iload_n rfl rfl rfl ?_
      refine jv_iconst rfl rfl ?_
      refine jv_iadd rfl rfl ⟨by omega, by omega⟩ ?_
      refine jv_istore (fun x => [some (.inr (.inr 94)), some (.inl n0), some (.inl kk), some (.inl jj), some (.inl x), none]) rfl rfl (fun _ => rfl) (fun x4_45 ex4_45 => ?_)
      refine jv_iload_n rfl rfl rfl ?_
      refine jv_iconst rfl rfl ?_
      refine jv_isub rfl rfl ⟨by omega, by omega⟩ ?_
      refine jv_istore (fun x => [some (.inr (.inr 94)), some (.inl n0), some (.inl kk), some (.inl jj), some (.inl x4_45), some (.inl x)]) rfl rfl (fun _ => rfl) (fun x5_49 ex5_49 => ?_)
      exact mo_next3 (R := jrv 6 (kk + 1) (n0 - 1) (jns (μ 102) kk jj)) (fun μ2 f e => k μ2 (fun z q => by rw [f z q, fμ41 z q]) (by rw [e, hj])) 6 x4_45 x5_49 μ41 (by omega) (by omega) (by omega) (fun _ _ => rfl) (by rw [gμ41, ex4_45, ex5_49])
    · refine jv_iinc (fun x => [some (.inr (.inr 94)), some (.inl n0), some (.inl kk), some (.inl x), none, none]) rfl rfl rfl ⟨by omega, by omega⟩ (fun _ => rfl) (fun x3_36 ex3_36 => ?_)
      refine jv_goto rfl rfl ?_
      rw [if_pos (by omega)] at hj
      have hne : jj ≠ kk + 1 := fun q => by rw [q] at c35; omega
      exact ih x3_36 (by omega) (by omega) (by omega) hj
set_option maxRecDepth 10000 in
theorem mo_next1 {X : jm_X} {d : Nat} {Q : jv_P} {n0 : Int} {μ : jm_M} (hn : 1 ≤ n0 ∧ n0 ≤ 6) (k0 : jnk (μ 102) (n0.toNat - 1) < 0 → Q [.inl 0] μ) (k1 : 0 ≤ jnk (μ 102) (n0.toNat - 1) → ∀ μ2 : jm_M, (∀ z, z ≠ 102 → μ2 z = μ z) → μ2 102 = jnx n0.toNat (μ 102) → Q [.inl 1] μ2) : ∀ (m : Nat) (kk : Int), kk = (m : Int) - 1 → (m : Int) < n0 → jnk (μ 102) (n0.toNat - 1) = jnk (μ 102) m → jV X (d + 1) jm_p_X10_nextLine Q 4 [some (.inr (.inr 94)), some (.inl n0), some (.inl kk), none, none, none] [] μ := by
  intro m
  induction m with
  | zero =>
    intro kk e h1 hj
    have hj : jnk (μ 102) (n0.toNat - 1) = -1 := hj
    refine jv_iload_n rfl rfl rfl ?_
    refine jv_if_ltT rfl rfl (by omega) ?_
    refine jv_iload_n rfl rfl rfl ?_
    refine jv_if_geF rfl rfl (by omega) ?_
    refine jv_iconst rfl rfl ?_
    refine jv_ireturn rfl (Or.inr ⟨rfl, by decide⟩) ?_
    exact k0 (by omega)
  | succ m ih =>
    intro kk e h1 hj
    simp only [jnk] at hj
    rw [show ((m : Nat) : Int) = kk by omega] at hj
    refine jv_iload_n rfl rfl rfl ?_
    refine jv_if_ltF rfl rfl (by omega) ?_
    refine jv_aload_n rfl rfl rfl (by decide) ?_
    refine jv_getr (w := 102) rfl rfl rfl ⟨by decide, rfl⟩ rfl rfl ?_
    refine jv_iload_n rfl rfl rfl ?_
    refine jv_iaload rfl rfl (by decide) rfl ⟨by omega, by omega⟩ ?_
    refine jv_aload_n rfl rfl rfl (by decide) ?_
    refine jv_getr (w := 102) rfl rfl rfl ⟨by decide, rfl⟩ rfl rfl ?_
    refine jv_iload_n rfl rfl rfl ?_
    refine jv_iconst rfl rfl ?_
    refine jv_iadd rfl rfl ⟨by omega, by omega⟩ ?_
    refine jv_iaload rfl rfl (by decide) rfl ⟨by omega, by omega⟩ ?_
    refine jv_icmp_le rfl rfl rfl (fun c16 => ?_) (fun c16 => ?_)
    · rw [if_neg (by omega)] at hj
      refine jv_iload_n rfl rfl rfl ?_
      refine jv_if_geT rfl rfl (by omega) ?_
      refine jv_iload_n rfl rfl rfl ?_
      refine jv_iconst rfl rfl ?_
      refine jv_isub rfl rfl ⟨by omega, by omega⟩ ?_
      refine jv_istore_n (fun x => [some (.inr (.inr 94)), some (.inl n0), some (.inl kk), some (.inl x), none, none]) rfl rfl (fun _ => rfl) (fun x3_26 ex3_26 => ?_)
      refine mo_next2 hn (by omega) (by omega) (fun μ2 f e => k1 (by omega) μ2 f ?_) (n0.toNat - 1) x3_26 (by omega) (by omega) (by omega) rfl
      rw [e]
      unfold jnx
      rw [hj, show ((n0.toNat : Nat) : Int) - 1 = n0 - 1 by omega]
    · refine jv_iinc (fun x => [some (.inr (.inr 94)), some (.inl n0), some (.inl x), none, none, none]) rfl rfl rfl ⟨by omega, by omega⟩ (fun _ => rfl) (fun x2_17 ex2_17 => ?_)
      refine jv_goto rfl rfl ?_
      rw [if_pos (by omega)] at hj
      exact ih x2_17 (by omega) (by omega) hj
set_option maxRecDepth 10000 in
theorem mo_nextLine {X : jm_X} {d : Nat} {Q : jv_P} {μ : jm_M} {n0 : Int} (hn : 0 ≤ n0 ∧ n0 ≤ 6) (k0 : jnk (μ 102) (n0.toNat - 1) < 0 → Q [.inl 0] μ) (k1 : 0 ≤ jnk (μ 102) (n0.toNat - 1) → ∀ μ2 : jm_M, (∀ z, z ≠ 102 → μ2 z = μ z) → μ2 102 = jnx n0.toNat (μ 102) → Q [.inl 1] μ2) : cV X (d + 2) 190 [.inr (.inr 94), .inl n0] μ Q := by
  refine jv_enter (d := d + 1) jm_p_X10_nextLine [some (.inr (.inr 94)), some (.inl n0), none, none, none, none] rfl rfl rfl (Nat.le_of_ble_eq_true rfl) rfl rfl ?_
  refine jv_iload_n rfl rfl rfl ?_
  refine jv_iconst rfl rfl ?_
  refine jv_isub rfl rfl ⟨by omega, by omega⟩ ?_
  refine jv_istore_n (fun x => [some (.inr (.inr 94)), some (.inl n0), some (.inl x), none, none, none]) rfl rfl (fun _ => rfl) (fun x2_3 ex2_3 => ?_)
  by_cases hn1 : 1 ≤ n0
  · exact mo_next1 ⟨hn1, hn.2⟩ k0 k1 (n0.toNat - 1) x2_3 (by omega) (by omega) rfl
  · have e0 : jnk (μ 102) (n0.toNat - 1) = -1 := by rw [show n0.toNat - 1 = 0 by omega]; rfl
    refine jv_iload_n rfl rfl rfl ?_
    refine jv_if_ltT rfl rfl (by omega) ?_
    refine jv_iload_n rfl rfl rfl ?_
    refine jv_if_geF rfl rfl (by omega) ?_
    refine jv_iconst rfl rfl ?_
    refine jv_ireturn rfl (Or.inr ⟨rfl, by decide⟩) ?_
    exact k0 (by omega)
set_option maxRecDepth 10000 in
theorem cl_keepT {X : jm_X} {d : Nat} {Q : jv_P} {μ : jm_M} {sz ca : Int} (hs : 0 ≤ sz ∧ sz ≤ 6) (k : ∀ μ2 : jm_M, (∀ z, z ≠ 49 → z ≠ 57 → μ2 z = μ z) → μ2 49 5 = ca → (∀ j, 0 ≤ j → j < sz → μ2 57 j = μ 56 j) → Q [] μ2) : cV X (d + 1) 17 [.inr (.inr 49), .inl sz, .inl ca] μ Q := by
  refine jv_enter (d := d + 0) jm_p_X2_keepTried [some (.inr (.inr 49)), some (.inl sz), some (.inl ca)] rfl rfl rfl (Nat.le_of_ble_eq_true rfl) rfl rfl ?_
  refine jv_aload_n rfl rfl rfl (by decide) ?_
  refine jv_iload_n rfl rfl rfl ?_
  refine jv_puti rfl rfl rfl ⟨by decide, rfl⟩ (Or.inl rfl) (fun μ2 eμ2 => ?_)
  refine jv_aload_n rfl rfl rfl (by decide) ?_
  refine jv_getr (w := 56) rfl rfl rfl ⟨by decide, rfl⟩ rfl rfl ?_
  refine jv_iconst rfl rfl ?_
  refine jv_aload_n rfl rfl rfl (by decide) ?_
  refine jv_getr (w := 57) rfl rfl rfl ⟨by decide, rfl⟩ rfl rfl ?_
  refine jv_iconst rfl rfl ?_
  refine jv_iload_n rfl rfl rfl ?_
  refine jv_acopy rfl rfl rfl rfl ⟨by decide, by decide⟩ (Nat.le_of_ble_eq_true rfl) ⟨⟨by omega, by omega, by omega⟩, by omega, by omega⟩ (fun μ10 eμ10 => ?_)
  refine jv_return rfl ?_
  refine k _ (fun z p q => by rw [eμ10, jm_off1 q, eμ2, jm_off1 p]) ?_ (fun j j0 j1 => ?_)
  · rw [eμ10, eμ2]; rfl
  · rw [eμ10, jm_uc_self, eμ2, jm_off1 (by decide)]
    unfold jm_cpy
    rw [if_pos (by omega), show 0 + (j - 0) = j by omega]
set_option maxRecDepth 10000 in
theorem cl_told {X : jm_X} {d : Nat} {Q : jv_P} {μ : jm_M} {q sz : Int} (hs : 0 ≤ sz ∧ sz ≤ 6) (k : Q [.inl (if q = -1 then μ 49 5 else if 0 ≤ q ∧ q < sz then μ 57 q else -1000000)] μ) : cV X (d + 1) 12 [.inr (.inr 49), .inl q, .inl sz] μ Q := by
  refine jv_enter (d := d + 0) jm_p_X2_told [some (.inr (.inr 49)), some (.inl q), some (.inl sz)] rfl rfl rfl (Nat.le_of_ble_eq_true rfl) rfl rfl ?_
  refine jv_iload_n rfl rfl rfl ?_
  refine jv_iconst rfl rfl ?_
  refine jv_icmp_ne rfl rfl rfl (fun c2 => ?_) (fun c2 => ?_)
  · refine jv_iload_n rfl rfl rfl ?_
    refine jv_if_lt rfl rfl rfl (fun c7 => ?_) (fun c7 => ?_)
    · refine jv_ldc rfl rfl ?_
      refine jv_ireturn rfl (Or.inl rfl) ?_
      have e : (-1000000) = (if q = -1 then μ 49 5 else if 0 ≤ q ∧ q < sz then μ 57 q else -1000000) := by
        (repeat' split) <;> first | rfl | (exfalso; omega)
      rw [e]
      exact k
    · refine jv_iload_n rfl rfl rfl ?_
      refine jv_iload_n rfl rfl rfl ?_
      refine jv_icmp_ge rfl rfl rfl (fun c10 => ?_) (fun c10 => ?_)
      · refine jv_ldc rfl rfl ?_
        refine jv_ireturn rfl (Or.inl rfl) ?_
        have e : (-1000000) = (if q = -1 then μ 49 5 else if 0 ≤ q ∧ q < sz then μ 57 q else -1000000) := by
          (repeat' split) <;> first | rfl | (exfalso; omega)
        rw [e]
        exact k
      · refine jv_iload_n rfl rfl rfl ?_
        refine jv_bipush rfl rfl ?_
        refine jv_icmp_ge rfl rfl rfl (fun c13 => ?_) (fun c13 => ?_)
        · refine jv_ldc rfl rfl ?_
          refine jv_ireturn rfl (Or.inl rfl) ?_
          have e : (-1000000) = (if q = -1 then μ 49 5 else if 0 ≤ q ∧ q < sz then μ 57 q else -1000000) := by
            (repeat' split) <;> first | rfl | (exfalso; omega)
          rw [e]
          exact k
        · refine jv_aload_n rfl rfl rfl (by decide) ?_
          refine jv_getr (w := 57) rfl rfl rfl ⟨by decide, rfl⟩ rfl rfl ?_
          refine jv_iload_n rfl rfl rfl ?_
          refine jv_iaload rfl rfl (by decide) rfl ⟨by omega, by omega⟩ ?_
          refine jv_goto rfl rfl ?_
          refine jv_ireturn rfl (Or.inl rfl) ?_
          have e : (μ 57 q) = (if q = -1 then μ 49 5 else if 0 ≤ q ∧ q < sz then μ 57 q else -1000000) := by
            (repeat' split) <;> first | rfl | (exfalso; omega)
          rw [e]
          exact k
  · refine jv_aload_n rfl rfl rfl (by decide) ?_
    refine jv_geti rfl rfl rfl ⟨by decide, rfl⟩ (by decide) ?_
    refine jv_ireturn rfl (Or.inl rfl) ?_
    have e : (μ 49 5) = (if q = -1 then μ 49 5 else if 0 ≤ q ∧ q < sz then μ 57 q else -1000000) := by
      (repeat' split) <;> first | rfl | (exfalso; omega)
    rw [e]
    exact k
