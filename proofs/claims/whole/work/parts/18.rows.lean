/-! the cells as they are behind the two constructors; walks over them, an instruction a row -/
def jm_SH : List jm_S := [(19, 12, [1, 5, 7, 24, 41, 42, 43, 45, 49, 58, -1, -1]), (17, 3, [2, 3, 4]), (0, 320, []), (0, 8, []), (0, 8, []), (16, 4, [6, -1, -1, -1]), (0, 100, []), (14, 6, [-1, -1, -1, -1, 8, 9]), (2, 4, []), (3, 6, []), (15, 2, [-1, 11]), (0, 6, []), (15, 2, [-1, 13]), (0, 6, []), (15, 2, [-1, 15]), (0, 6, []), (15, 2, [-1, 17]), (0, 6, []), (11, 5, [-1, -1, -1, -1, -1]), (11, 5, [-1, -1, -1, -1, -1]), (11, 5, [-1, -1, -1, -1, -1]), (11, 5, [-1, -1, -1, -1, -1]), (11, 5, [-1, -1, -1, -1, -1]), (11, 5, [-1, -1, -1, -1, -1]), (14, 6, [-1, -1, -1, -1, 25, 26]), (2, 4, []), (3, 6, []), (15, 2, [-1, 28]), (0, 6, []), (15, 2, [-1, 30]), (0, 6, []), (15, 2, [-1, 32]), (0, 6, []), (15, 2, [-1, 34]), (0, 6, []), (11, 5, [-1, -1, -1, -1, -1]), (11, 5, [-1, -1, -1, -1, -1]), (11, 5, [-1, -1, -1, -1, -1]), (11, 5, [-1, -1, -1, -1, -1]), (11, 5, [-1, -1, -1, -1, -1]), (11, 5, [-1, -1, -1, -1, -1]), (4, 2, []), (1, 2, []), (13, 3, [44, -1, -1]), (0, 960, []), (18, 3, [46, 47, 48]), (0, 4, []), (0, 4, []), (0, 4, []), (12, 6, [50, 54, 55, 56, 57, -1]), (18, 3, [51, 52, 53]), (0, 4, []), (0, 4, []), (0, 4, []), (11, 5, [-1, -1, -1, -1, -1]), (0, 24, []), (0, 6, []), (0, 6, []), (10, 2, [59, -1]), (0, 16, []), (14, 6, [-1, -1, -1, -1, 61, 62]), (2, 4, []), (3, 6, []), (15, 2, [-1, 64]), (0, 6, []), (15, 2, [-1, 66]), (0, 6, []), (15, 2, [-1, 68]), (0, 6, []), (15, 2, [-1, 70]), (0, 6, []), (11, 5, [-1, -1, -1, -1, -1]), (11, 5, [-1, -1, -1, -1, -1]), (11, 5, [-1, -1, -1, -1, -1]), (11, 5, [-1, -1, -1, -1, -1]), (11, 5, [-1, -1, -1, -1, -1]), (11, 5, [-1, -1, -1, -1, -1]), (14, 6, [-1, -1, -1, -1, 78, 79]), (2, 4, []), (3, 6, []), (15, 2, [-1, 81]), (0, 6, []), (15, 2, [-1, 83]), (0, 6, []), (15, 2, [-1, 85]), (0, 6, []), (15, 2, [-1, 87]), (0, 6, []), (11, 5, [-1, -1, -1, -1, -1]), (11, 5, [-1, -1, -1, -1, -1]), (11, 5, [-1, -1, -1, -1, -1]), (11, 5, [-1, -1, -1, -1, -1]), (11, 5, [-1, -1, -1, -1, -1]), (11, 5, [-1, -1, -1, -1, -1]), (20, 18, [95, -1, -1, 96, 97, 98, 99, 100, -1, -1, -1, 101, -1, -1, -1, -1, 102, 103]), (0, 1736, []), (1, 2, []), (0, 8, []), (0, 8, []), (0, 320, []), (0, 100, []), (0, 16, []), (0, 6, []), (0, 6, [])]
abbrev jv_P : Type := List jm_V → jm_M → Prop
def jV (X : jm_X) (d : Nat) (P : List jm_E) (Q : jv_P) (i : Nat) (L : jm_L) (st : List jm_V) (μ : jm_M) : Prop := jm_WP X (jm_CW X jm_PP d) (104, 4049) P (fun v h => h.1 = jm_SH ∧ Q v h.2) i L st (jm_SH, μ)
def cV (X : jm_X) (d f : Nat) (vs : List jm_V) (μ : jm_M) (Q : jv_P) : Prop := jm_CW X jm_PP d f vs (jm_SH, μ) (fun v h => h.1 = jm_SH ∧ Q v h.2)
section JVR
variable {X : jm_X} {d : Nat} {P : List jm_E} {Q : jv_P} {i j : Nat} {L : jm_L} {st r : List jm_V} {μ : jm_M} {pc len : Nat} {res : List Int}
theorem jv_len : jm_SH.length = 104 := rfl
theorem jv_tot : jm_tot jm_SH = 4049 := by decide
theorem jv_enter {f : Nat} {vs : List jm_V} {n : Nat} (P : List jm_E) (L : jm_L) (hmc : jm_mc f = 0) (hms : jm_ms f = 0) (hma : jm_ma f = n) (hl : (jm_loc vs).length ≤ n) (hP : jm_PP f = P) (hL : jm_loc vs ++ List.replicate (n - (jm_loc vs).length) none = L) (k : jV X d P Q 0 L [] μ) : cV X (d + 1) f vs μ Q := by
  refine ⟨by rw [hma]; exact hl, ?_⟩
  rw [hma, hL, hP, hmc, hms]
  show jm_WP X (jm_CW X jm_PP d) (jm_SH.length + 0, jm_tot jm_SH + 0) P _ 0 L [] (jm_SH, μ)
  rw [jv_tot]
  refine jm_WP_Q (fun v h z => ?_) k
  refine ⟨⟨?_, ?_⟩, z⟩
  · rw [hmc, z.1]; rfl
  · rw [hms, z.1]; rfl
theorem jv_mono {f : Nat} {vs : List jm_V} {Q Q' : jv_P} (h : cV X d f vs μ Q) (k : ∀ v μ', Q v μ' → Q' v μ') : cV X d f vs μ Q' := jm_CW_mono X jm_PP d _ _ _ _ _ (fun v h q => ⟨q.1, k v h.2 q.2⟩) h
theorem jv_iconst {n : Int} (he : P[i]? = some (pc, .iconst n, len, res)) (hj : i + 1 = j) (k : jV X d P Q j L (.inl n :: st) μ) : jV X d P Q i L (st) μ := jm_fold (jm_CW_mono X jm_PP d) he (by subst hj; exact k)
theorem jv_bipush {n : Int} (he : P[i]? = some (pc, .bipush n, len, res)) (hj : i + 1 = j) (k : jV X d P Q j L (.inl n :: st) μ) : jV X d P Q i L (st) μ := jm_fold (jm_CW_mono X jm_PP d) he (by subst hj; exact k)
theorem jv_sipush {n : Int} (he : P[i]? = some (pc, .sipush n, len, res)) (hj : i + 1 = j) (k : jV X d P Q j L (.inl n :: st) μ) : jV X d P Q i L (st) μ := jm_fold (jm_CW_mono X jm_PP d) he (by subst hj; exact k)
theorem jv_ldc {x : Nat} {v : Int} (he : P[i]? = some (pc, .ldc x, len, [v])) (hj : i + 1 = j) (k : jV X d P Q j L (.inl v :: st) μ) : jV X d P Q i L (st) μ := jm_fold (jm_CW_mono X jm_PP d) he (by subst hj; exact k)
theorem jv_ldc_w {x : Nat} {v : Int} (he : P[i]? = some (pc, .ldc_w x, len, [v])) (hj : i + 1 = j) (k : jV X d P Q j L (.inl v :: st) μ) : jV X d P Q i L (st) μ := jm_fold (jm_CW_mono X jm_PP d) he (by subst hj; exact k)
theorem jv_ldc2_w {x : Nat} {v : Int} (he : P[i]? = some (pc, .ldc2_w x, len, [v])) (hj : i + 1 = j) (k : jV X d P Q j L (.inr (.inl v) :: st) μ) : jV X d P Q i L (st) μ := jm_fold (jm_CW_mono X jm_PP d) he (by subst hj; exact k)
theorem jv_lconst {n : Fin 2} (he : P[i]? = some (pc, .lconst n, len, res)) (hj : i + 1 = j) (k : jV X d P Q j L (.inr (.inl (n.val : Int)) :: st) μ) : jV X d P Q i L (st) μ := jm_fold (jm_CW_mono X jm_PP d) he (by subst hj; exact k)
theorem jv_iload {k0 : Nat} {z : Int} (he : P[i]? = some (pc, .iload k0, len, res)) (hj : i + 1 = j) (hl : L[k0]? = some (some (.inl z))) (k : jV X d P Q j L (.inl z :: st) μ) : jV X d P Q i L st μ := jm_fold (jm_CW_mono X jm_PP d) he (by subst hj; simp only [jm_sem, hl]; exact k)
theorem jv_iload_n {k0 : Fin 4} {z : Int} (he : P[i]? = some (pc, .iload_n k0, len, res)) (hj : i + 1 = j) (hl : L[k0.val]? = some (some (.inl z))) (k : jV X d P Q j L (.inl z :: st) μ) : jV X d P Q i L st μ := jm_fold (jm_CW_mono X jm_PP d) he (by subst hj; simp only [jm_sem, hl]; exact k)
theorem jv_lload {k0 : Nat} {z : Int} (he : P[i]? = some (pc, .lload k0, len, res)) (hj : i + 1 = j) (hl : L[k0]? = some (some (.inr (.inl z)))) (k : jV X d P Q j L (.inr (.inl z) :: st) μ) : jV X d P Q i L st μ := jm_fold (jm_CW_mono X jm_PP d) he (by subst hj; simp only [jm_sem, hl]; exact k)
theorem jv_lload_n {k0 : Fin 4} {z : Int} (he : P[i]? = some (pc, .lload_n k0, len, res)) (hj : i + 1 = j) (hl : L[k0.val]? = some (some (.inr (.inl z)))) (k : jV X d P Q j L (.inr (.inl z) :: st) μ) : jV X d P Q i L st μ := jm_fold (jm_CW_mono X jm_PP d) he (by subst hj; simp only [jm_sem, hl]; exact k)
theorem jv_aload {k0 : Nat} {z : Int} (he : P[i]? = some (pc, .aload k0, len, res)) (hj : i + 1 = j) (hl : L[k0]? = some (some (.inr (.inr z)))) (hc : ¬ z = -1) (k : jV X d P Q j L (.inr (.inr z) :: st) μ) : jV X d P Q i L st μ := jm_fold (jm_CW_mono X jm_PP d) he (by subst hj; simp only [jm_sem, hl]; exact And.intro hc k)
theorem jv_aload_n {k0 : Fin 4} {z : Int} (he : P[i]? = some (pc, .aload_n k0, len, res)) (hj : i + 1 = j) (hl : L[k0.val]? = some (some (.inr (.inr z)))) (hc : ¬ z = -1) (k : jV X d P Q j L (.inr (.inr z) :: st) μ) : jV X d P Q i L st μ := jm_fold (jm_CW_mono X jm_PP d) he (by subst hj; simp only [jm_sem, hl]; exact And.intro hc k)
theorem jv_istore {k0 : Nat} {z : Int} (L2 : Int → jm_L) (he : P[i]? = some (pc, .istore k0, len, res)) (hj : i + 1 = j) (hL : ∀ x, jm_set L k0 (.inl x) = L2 x) (k : ∀ x : Int, x = z → jV X d P Q j (L2 x) r μ) : jV X d P Q i L (.inl z :: r) μ := jm_fold (jm_CW_mono X jm_PP d) he (by subst hj; have q := k z rfl; rw [← hL z] at q; exact q)
theorem jv_istore_n {k0 : Fin 4} {z : Int} (L2 : Int → jm_L) (he : P[i]? = some (pc, .istore_n k0, len, res)) (hj : i + 1 = j) (hL : ∀ x, jm_set L k0.val (.inl x) = L2 x) (k : ∀ x : Int, x = z → jV X d P Q j (L2 x) r μ) : jV X d P Q i L (.inl z :: r) μ := jm_fold (jm_CW_mono X jm_PP d) he (by subst hj; have q := k z rfl; rw [← hL z] at q; exact q)
theorem jv_lstore {k0 : Nat} {z : Int} (L2 : Int → jm_L) (he : P[i]? = some (pc, .lstore k0, len, res)) (hj : i + 1 = j) (hL : ∀ x, jm_set2 L k0 (.inr (.inl x)) = L2 x) (k : ∀ x : Int, x = z → jV X d P Q j (L2 x) r μ) : jV X d P Q i L (.inr (.inl z) :: r) μ := jm_fold (jm_CW_mono X jm_PP d) he (by subst hj; have q := k z rfl; rw [← hL z] at q; exact q)
theorem jv_lstore_n {k0 : Fin 4} {z : Int} (L2 : Int → jm_L) (he : P[i]? = some (pc, .lstore_n k0, len, res)) (hj : i + 1 = j) (hL : ∀ x, jm_set2 L k0.val (.inr (.inl x)) = L2 x) (k : ∀ x : Int, x = z → jV X d P Q j (L2 x) r μ) : jV X d P Q i L (.inr (.inl z) :: r) μ := jm_fold (jm_CW_mono X jm_PP d) he (by subst hj; have q := k z rfl; rw [← hL z] at q; exact q)
theorem jv_astore {k0 : Nat} {z : Int} {L2 : jm_L} (he : P[i]? = some (pc, .astore k0, len, res)) (hj : i + 1 = j) (hc : ¬ z = -1) (hL : jm_set L k0 (.inr (.inr z)) = L2) (k : jV X d P Q j L2 (r) μ) : jV X d P Q i L (.inr (.inr z) :: r) μ := jm_fold (jm_CW_mono X jm_PP d) he (by subst hj; subst hL; exact And.intro hc k)
theorem jv_astore_n {k0 : Fin 4} {z : Int} {L2 : jm_L} (he : P[i]? = some (pc, .astore_n k0, len, res)) (hj : i + 1 = j) (hc : ¬ z = -1) (hL : jm_set L k0.val (.inr (.inr z)) = L2) (k : jV X d P Q j L2 (r) μ) : jV X d P Q i L (.inr (.inr z) :: r) μ := jm_fold (jm_CW_mono X jm_PP d) he (by subst hj; subst hL; exact And.intro hc k)
theorem jv_iinc {k0 : Nat} {n z : Int} (L2 : Int → jm_L) (he : P[i]? = some (pc, .iinc k0 n, len, res)) (hj : i + 1 = j) (hl : L[k0]? = some (some (.inl z))) (hc : jm_r (z + n)) (hL : ∀ x, jm_set L k0 (.inl x) = L2 x) (k : ∀ x : Int, x = z + n → jV X d P Q j (L2 x) st μ) : jV X d P Q i L st μ := jm_fold (jm_CW_mono X jm_PP d) he (by subst hj; have q := k (z + n) rfl; rw [← hL (z + n)] at q; simp only [jm_sem, hl]; exact And.intro hc q)
theorem jv_iadd {a b : Int} (he : P[i]? = some (pc, .iadd, len, res)) (hj : i + 1 = j) (hc : jm_r (a + b)) (k : jV X d P Q j L (.inl (a + b) :: r) μ) : jV X d P Q i L (.inl b :: .inl a :: r) μ := jm_fold (jm_CW_mono X jm_PP d) he (by subst hj; exact And.intro hc k)
theorem jv_isub {a b : Int} (he : P[i]? = some (pc, .isub, len, res)) (hj : i + 1 = j) (hc : jm_r (a - b)) (k : jV X d P Q j L (.inl (a - b) :: r) μ) : jV X d P Q i L (.inl b :: .inl a :: r) μ := jm_fold (jm_CW_mono X jm_PP d) he (by subst hj; exact And.intro hc k)
theorem jv_imul {a b : Int} (he : P[i]? = some (pc, .imul, len, res)) (hj : i + 1 = j) (hc : jm_r (a * b)) (k : jV X d P Q j L (.inl (a * b) :: r) μ) : jV X d P Q i L (.inl b :: .inl a :: r) μ := jm_fold (jm_CW_mono X jm_PP d) he (by subst hj; exact And.intro hc k)
theorem jv_idiv {a b : Int} (he : P[i]? = some (pc, .idiv, len, res)) (hj : i + 1 = j) (hc : 0 ≤ a ∧ 0 < b) (k : jV X d P Q j L (.inl (a / b) :: r) μ) : jV X d P Q i L (.inl b :: .inl a :: r) μ := jm_fold (jm_CW_mono X jm_PP d) he (by subst hj; exact And.intro hc k)
theorem jv_irem {a b : Int} (he : P[i]? = some (pc, .irem, len, res)) (hj : i + 1 = j) (hc : 0 ≤ a ∧ 0 < b) (k : jV X d P Q j L (.inl (a % b) :: r) μ) : jV X d P Q i L (.inl b :: .inl a :: r) μ := jm_fold (jm_CW_mono X jm_PP d) he (by subst hj; exact And.intro hc k)
theorem jv_iand {a b : Int} (he : P[i]? = some (pc, .iand, len, res)) (hj : i + 1 = j) (k : jV X d P Q j L (.inl (jm_and a b) :: r) μ) : jV X d P Q i L (.inl b :: .inl a :: r) μ := jm_fold (jm_CW_mono X jm_PP d) he (by subst hj; exact k)
theorem jv_ior {a b : Int} (he : P[i]? = some (pc, .ior, len, res)) (hj : i + 1 = j) (k : jV X d P Q j L (.inl (jm_or a b) :: r) μ) : jV X d P Q i L (.inl b :: .inl a :: r) μ := jm_fold (jm_CW_mono X jm_PP d) he (by subst hj; exact k)
theorem jv_ixor {a b : Int} (he : P[i]? = some (pc, .ixor, len, res)) (hj : i + 1 = j) (k : jV X d P Q j L (.inl (jm_xor a b) :: r) μ) : jV X d P Q i L (.inl b :: .inl a :: r) μ := jm_fold (jm_CW_mono X jm_PP d) he (by subst hj; exact k)
theorem jv_ishl {a b : Int} (he : P[i]? = some (pc, .ishl, len, res)) (hj : i + 1 = j) (k : jV X d P Q j L (.inl (jm_shl a b) :: r) μ) : jV X d P Q i L (.inl b :: .inl a :: r) μ := jm_fold (jm_CW_mono X jm_PP d) he (by subst hj; exact k)
theorem jv_ishr {a b : Int} (he : P[i]? = some (pc, .ishr, len, res)) (hj : i + 1 = j) (k : jV X d P Q j L (.inl (jm_shr a b) :: r) μ) : jV X d P Q i L (.inl b :: .inl a :: r) μ := jm_fold (jm_CW_mono X jm_PP d) he (by subst hj; exact k)
theorem jv_iushr {a b : Int} (he : P[i]? = some (pc, .iushr, len, res)) (hj : i + 1 = j) (k : jV X d P Q j L (.inl (jm_ushr a b) :: r) μ) : jV X d P Q i L (.inl b :: .inl a :: r) μ := jm_fold (jm_CW_mono X jm_PP d) he (by subst hj; exact k)
theorem jv_ladd {a b : Int} (he : P[i]? = some (pc, .ladd, len, res)) (hj : i + 1 = j) (hc : jm_rl (a + b)) (k : jV X d P Q j L (.inr (.inl (a + b)) :: r) μ) : jV X d P Q i L (.inr (.inl b) :: .inr (.inl a) :: r) μ := jm_fold (jm_CW_mono X jm_PP d) he (by subst hj; exact And.intro hc k)
theorem jv_lmul {a b : Int} (he : P[i]? = some (pc, .lmul, len, res)) (hj : i + 1 = j) (hc : jm_rl (a * b)) (k : jV X d P Q j L (.inr (.inl (a * b)) :: r) μ) : jV X d P Q i L (.inr (.inl b) :: .inr (.inl a) :: r) μ := jm_fold (jm_CW_mono X jm_PP d) he (by subst hj; exact And.intro hc k)
theorem jv_lrem {a b : Int} (he : P[i]? = some (pc, .lrem, len, res)) (hj : i + 1 = j) (hc : 0 ≤ a ∧ 0 < b) (k : jV X d P Q j L (.inr (.inl (a % b)) :: r) μ) : jV X d P Q i L (.inr (.inl b) :: .inr (.inl a) :: r) μ := jm_fold (jm_CW_mono X jm_PP d) he (by subst hj; exact And.intro hc k)
theorem jv_lcmp {a b : Int} (he : P[i]? = some (pc, .lcmp, len, res)) (hj : i + 1 = j) (k : jV X d P Q j L (.inl (if a < b then -1 else if a = b then 0 else 1) :: r) μ) : jV X d P Q i L (.inr (.inl b) :: .inr (.inl a) :: r) μ := jm_fold (jm_CW_mono X jm_PP d) he (by subst hj; exact k)
theorem jv_ineg {a : Int} (he : P[i]? = some (pc, .ineg, len, res)) (hj : i + 1 = j) (hc : jm_r (-a)) (k : jV X d P Q j L (.inl (-a) :: r) μ) : jV X d P Q i L (.inl a :: r) μ := jm_fold (jm_CW_mono X jm_PP d) he (by subst hj; exact And.intro hc k)
theorem jv_i2l {a : Int} (he : P[i]? = some (pc, .i2l, len, res)) (hj : i + 1 = j) (k : jV X d P Q j L (.inr (.inl a) :: r) μ) : jV X d P Q i L (.inl a :: r) μ := jm_fold (jm_CW_mono X jm_PP d) he (by subst hj; exact k)
theorem jv_l2i {a : Int} (he : P[i]? = some (pc, .l2i, len, res)) (hj : i + 1 = j) (hc : jm_r a) (k : jV X d P Q j L (.inl a :: r) μ) : jV X d P Q i L (.inr (.inl a) :: r) μ := jm_fold (jm_CW_mono X jm_PP d) he (by subst hj; exact And.intro hc k)
theorem jv_i2b {a : Int} (he : P[i]? = some (pc, .i2b, len, res)) (hj : i + 1 = j) (k : jV X d P Q j L (.inl (a.bmod 256) :: r) μ) : jV X d P Q i L (.inl a :: r) μ := jm_fold (jm_CW_mono X jm_PP d) he (by subst hj; exact k)
theorem jv_i2s {a : Int} (he : P[i]? = some (pc, .i2s, len, res)) (hj : i + 1 = j) (k : jV X d P Q j L (.inl (a.bmod 65536) :: r) μ) : jV X d P Q i L (.inl a :: r) μ := jm_fold (jm_CW_mono X jm_PP d) he (by subst hj; exact k)
theorem jv_dupi {a : Int} (he : P[i]? = some (pc, .dup, len, res)) (hj : i + 1 = j) (k : jV X d P Q j L (.inl a :: .inl a :: r) μ) : jV X d P Q i L (.inl a :: r) μ := jm_fold (jm_CW_mono X jm_PP d) he (by subst hj; exact k)
theorem jv_dupr {a : Int} (he : P[i]? = some (pc, .dup, len, res)) (hj : i + 1 = j) (k : jV X d P Q j L (.inr (.inr a) :: .inr (.inr a) :: r) μ) : jV X d P Q i L (.inr (.inr a) :: r) μ := jm_fold (jm_CW_mono X jm_PP d) he (by subst hj; exact k)
theorem jv_dup2 {a b : Int} (he : P[i]? = some (pc, .dup2, len, res)) (hj : i + 1 = j) (k : jV X d P Q j L (.inl a :: .inr (.inr b) :: .inl a :: .inr (.inr b) :: r) μ) : jV X d P Q i L (.inl a :: .inr (.inr b) :: r) μ := jm_fold (jm_CW_mono X jm_PP d) he (by subst hj; exact k)
theorem jv_pop {a : Int} (he : P[i]? = some (pc, .pop, len, res)) (hj : i + 1 = j) (k : jV X d P Q j L (r) μ) : jV X d P Q i L (.inl a :: r) μ := jm_fold (jm_CW_mono X jm_PP d) he (by subst hj; exact k)
theorem jv_if_eq {a t off : Int} {j2 : Nat} (he : P[i]? = some (pc, .ifCond .eq off, len, [t])) (hj : t.toNat = j) (hj2 : i + 1 = j2) (k1 : a = 0 → jV X d P Q j L r μ) (k2 : ¬ (a = 0) → jV X d P Q j2 L r μ) : jV X d P Q i L (.inl a :: r) μ := jm_fold (jm_CW_mono X jm_PP d) he (by subst hj; subst hj2; exact And.intro k1 k2)
theorem jv_if_eqT {a t off : Int} (he : P[i]? = some (pc, .ifCond .eq off, len, [t])) (hj : t.toNat = j) (hc : a = 0) (k1 : jV X d P Q j L r μ) : jV X d P Q i L (.inl a :: r) μ := jm_fold (jm_CW_mono X jm_PP d) he (by subst hj; exact And.intro (fun _ => k1) (fun q => absurd hc q))
theorem jv_if_eqF {a t off : Int} (he : P[i]? = some (pc, .ifCond .eq off, len, [t])) (hj : i + 1 = j) (hc : ¬ (a = 0)) (k1 : jV X d P Q j L r μ) : jV X d P Q i L (.inl a :: r) μ := jm_fold (jm_CW_mono X jm_PP d) he (by subst hj; exact And.intro (fun q => absurd q hc) (fun _ => k1))
theorem jv_icmp_eq {a b t off : Int} {j2 : Nat} (he : P[i]? = some (pc, .if_icmp .eq off, len, [t])) (hj : t.toNat = j) (hj2 : i + 1 = j2) (k1 : a = b → jV X d P Q j L r μ) (k2 : ¬ (a = b) → jV X d P Q j2 L r μ) : jV X d P Q i L (.inl b :: .inl a :: r) μ := jm_fold (jm_CW_mono X jm_PP d) he (by subst hj; subst hj2; exact And.intro k1 k2)
theorem jv_icmp_eqT {a b t off : Int} (he : P[i]? = some (pc, .if_icmp .eq off, len, [t])) (hj : t.toNat = j) (hc : a = b) (k1 : jV X d P Q j L r μ) : jV X d P Q i L (.inl b :: .inl a :: r) μ := jm_fold (jm_CW_mono X jm_PP d) he (by subst hj; exact And.intro (fun _ => k1) (fun q => absurd hc q))
theorem jv_icmp_eqF {a b t off : Int} (he : P[i]? = some (pc, .if_icmp .eq off, len, [t])) (hj : i + 1 = j) (hc : ¬ (a = b)) (k1 : jV X d P Q j L r μ) : jV X d P Q i L (.inl b :: .inl a :: r) μ := jm_fold (jm_CW_mono X jm_PP d) he (by subst hj; exact And.intro (fun q => absurd q hc) (fun _ => k1))
theorem jv_if_ne {a t off : Int} {j2 : Nat} (he : P[i]? = some (pc, .ifCond .ne off, len, [t])) (hj : t.toNat = j) (hj2 : i + 1 = j2) (k1 : ¬ a = 0 → jV X d P Q j L r μ) (k2 : ¬ (¬ a = 0) → jV X d P Q j2 L r μ) : jV X d P Q i L (.inl a :: r) μ := jm_fold (jm_CW_mono X jm_PP d) he (by subst hj; subst hj2; exact And.intro k1 k2)
theorem jv_if_neT {a t off : Int} (he : P[i]? = some (pc, .ifCond .ne off, len, [t])) (hj : t.toNat = j) (hc : ¬ a = 0) (k1 : jV X d P Q j L r μ) : jV X d P Q i L (.inl a :: r) μ := jm_fold (jm_CW_mono X jm_PP d) he (by subst hj; exact And.intro (fun _ => k1) (fun q => absurd hc q))
theorem jv_if_neF {a t off : Int} (he : P[i]? = some (pc, .ifCond .ne off, len, [t])) (hj : i + 1 = j) (hc : ¬ (¬ a = 0)) (k1 : jV X d P Q j L r μ) : jV X d P Q i L (.inl a :: r) μ := jm_fold (jm_CW_mono X jm_PP d) he (by subst hj; exact And.intro (fun q => absurd q hc) (fun _ => k1))
theorem jv_icmp_ne {a b t off : Int} {j2 : Nat} (he : P[i]? = some (pc, .if_icmp .ne off, len, [t])) (hj : t.toNat = j) (hj2 : i + 1 = j2) (k1 : ¬ a = b → jV X d P Q j L r μ) (k2 : ¬ (¬ a = b) → jV X d P Q j2 L r μ) : jV X d P Q i L (.inl b :: .inl a :: r) μ := jm_fold (jm_CW_mono X jm_PP d) he (by subst hj; subst hj2; exact And.intro k1 k2)
theorem jv_icmp_neT {a b t off : Int} (he : P[i]? = some (pc, .if_icmp .ne off, len, [t])) (hj : t.toNat = j) (hc : ¬ a = b) (k1 : jV X d P Q j L r μ) : jV X d P Q i L (.inl b :: .inl a :: r) μ := jm_fold (jm_CW_mono X jm_PP d) he (by subst hj; exact And.intro (fun _ => k1) (fun q => absurd hc q))
theorem jv_icmp_neF {a b t off : Int} (he : P[i]? = some (pc, .if_icmp .ne off, len, [t])) (hj : i + 1 = j) (hc : ¬ (¬ a = b)) (k1 : jV X d P Q j L r μ) : jV X d P Q i L (.inl b :: .inl a :: r) μ := jm_fold (jm_CW_mono X jm_PP d) he (by subst hj; exact And.intro (fun q => absurd q hc) (fun _ => k1))
theorem jv_if_lt {a t off : Int} {j2 : Nat} (he : P[i]? = some (pc, .ifCond .lt off, len, [t])) (hj : t.toNat = j) (hj2 : i + 1 = j2) (k1 : a < 0 → jV X d P Q j L r μ) (k2 : ¬ (a < 0) → jV X d P Q j2 L r μ) : jV X d P Q i L (.inl a :: r) μ := jm_fold (jm_CW_mono X jm_PP d) he (by subst hj; subst hj2; exact And.intro k1 k2)
theorem jv_if_ltT {a t off : Int} (he : P[i]? = some (pc, .ifCond .lt off, len, [t])) (hj : t.toNat = j) (hc : a < 0) (k1 : jV X d P Q j L r μ) : jV X d P Q i L (.inl a :: r) μ := jm_fold (jm_CW_mono X jm_PP d) he (by subst hj; exact And.intro (fun _ => k1) (fun q => absurd hc q))
theorem jv_if_ltF {a t off : Int} (he : P[i]? = some (pc, .ifCond .lt off, len, [t])) (hj : i + 1 = j) (hc : ¬ (a < 0)) (k1 : jV X d P Q j L r μ) : jV X d P Q i L (.inl a :: r) μ := jm_fold (jm_CW_mono X jm_PP d) he (by subst hj; exact And.intro (fun q => absurd q hc) (fun _ => k1))
theorem jv_icmp_lt {a b t off : Int} {j2 : Nat} (he : P[i]? = some (pc, .if_icmp .lt off, len, [t])) (hj : t.toNat = j) (hj2 : i + 1 = j2) (k1 : a < b → jV X d P Q j L r μ) (k2 : ¬ (a < b) → jV X d P Q j2 L r μ) : jV X d P Q i L (.inl b :: .inl a :: r) μ := jm_fold (jm_CW_mono X jm_PP d) he (by subst hj; subst hj2; exact And.intro k1 k2)
theorem jv_icmp_ltT {a b t off : Int} (he : P[i]? = some (pc, .if_icmp .lt off, len, [t])) (hj : t.toNat = j) (hc : a < b) (k1 : jV X d P Q j L r μ) : jV X d P Q i L (.inl b :: .inl a :: r) μ := jm_fold (jm_CW_mono X jm_PP d) he (by subst hj; exact And.intro (fun _ => k1) (fun q => absurd hc q))
theorem jv_icmp_ltF {a b t off : Int} (he : P[i]? = some (pc, .if_icmp .lt off, len, [t])) (hj : i + 1 = j) (hc : ¬ (a < b)) (k1 : jV X d P Q j L r μ) : jV X d P Q i L (.inl b :: .inl a :: r) μ := jm_fold (jm_CW_mono X jm_PP d) he (by subst hj; exact And.intro (fun q => absurd q hc) (fun _ => k1))
theorem jv_if_ge {a t off : Int} {j2 : Nat} (he : P[i]? = some (pc, .ifCond .ge off, len, [t])) (hj : t.toNat = j) (hj2 : i + 1 = j2) (k1 : 0 ≤ a → jV X d P Q j L r μ) (k2 : ¬ (0 ≤ a) → jV X d P Q j2 L r μ) : jV X d P Q i L (.inl a :: r) μ := jm_fold (jm_CW_mono X jm_PP d) he (by subst hj; subst hj2; exact And.intro k1 k2)
theorem jv_if_geT {a t off : Int} (he : P[i]? = some (pc, .ifCond .ge off, len, [t])) (hj : t.toNat = j) (hc : 0 ≤ a) (k1 : jV X d P Q j L r μ) : jV X d P Q i L (.inl a :: r) μ := jm_fold (jm_CW_mono X jm_PP d) he (by subst hj; exact And.intro (fun _ => k1) (fun q => absurd hc q))
theorem jv_if_geF {a t off : Int} (he : P[i]? = some (pc, .ifCond .ge off, len, [t])) (hj : i + 1 = j) (hc : ¬ (0 ≤ a)) (k1 : jV X d P Q j L r μ) : jV X d P Q i L (.inl a :: r) μ := jm_fold (jm_CW_mono X jm_PP d) he (by subst hj; exact And.intro (fun q => absurd q hc) (fun _ => k1))
theorem jv_icmp_ge {a b t off : Int} {j2 : Nat} (he : P[i]? = some (pc, .if_icmp .ge off, len, [t])) (hj : t.toNat = j) (hj2 : i + 1 = j2) (k1 : b ≤ a → jV X d P Q j L r μ) (k2 : ¬ (b ≤ a) → jV X d P Q j2 L r μ) : jV X d P Q i L (.inl b :: .inl a :: r) μ := jm_fold (jm_CW_mono X jm_PP d) he (by subst hj; subst hj2; exact And.intro k1 k2)
theorem jv_icmp_geT {a b t off : Int} (he : P[i]? = some (pc, .if_icmp .ge off, len, [t])) (hj : t.toNat = j) (hc : b ≤ a) (k1 : jV X d P Q j L r μ) : jV X d P Q i L (.inl b :: .inl a :: r) μ := jm_fold (jm_CW_mono X jm_PP d) he (by subst hj; exact And.intro (fun _ => k1) (fun q => absurd hc q))
theorem jv_icmp_geF {a b t off : Int} (he : P[i]? = some (pc, .if_icmp .ge off, len, [t])) (hj : i + 1 = j) (hc : ¬ (b ≤ a)) (k1 : jV X d P Q j L r μ) : jV X d P Q i L (.inl b :: .inl a :: r) μ := jm_fold (jm_CW_mono X jm_PP d) he (by subst hj; exact And.intro (fun q => absurd q hc) (fun _ => k1))
theorem jv_if_gt {a t off : Int} {j2 : Nat} (he : P[i]? = some (pc, .ifCond .gt off, len, [t])) (hj : t.toNat = j) (hj2 : i + 1 = j2) (k1 : 0 < a → jV X d P Q j L r μ) (k2 : ¬ (0 < a) → jV X d P Q j2 L r μ) : jV X d P Q i L (.inl a :: r) μ := jm_fold (jm_CW_mono X jm_PP d) he (by subst hj; subst hj2; exact And.intro k1 k2)
theorem jv_if_gtT {a t off : Int} (he : P[i]? = some (pc, .ifCond .gt off, len, [t])) (hj : t.toNat = j) (hc : 0 < a) (k1 : jV X d P Q j L r μ) : jV X d P Q i L (.inl a :: r) μ := jm_fold (jm_CW_mono X jm_PP d) he (by subst hj; exact And.intro (fun _ => k1) (fun q => absurd hc q))
theorem jv_if_gtF {a t off : Int} (he : P[i]? = some (pc, .ifCond .gt off, len, [t])) (hj : i + 1 = j) (hc : ¬ (0 < a)) (k1 : jV X d P Q j L r μ) : jV X d P Q i L (.inl a :: r) μ := jm_fold (jm_CW_mono X jm_PP d) he (by subst hj; exact And.intro (fun q => absurd q hc) (fun _ => k1))
theorem jv_icmp_gt {a b t off : Int} {j2 : Nat} (he : P[i]? = some (pc, .if_icmp .gt off, len, [t])) (hj : t.toNat = j) (hj2 : i + 1 = j2) (k1 : b < a → jV X d P Q j L r μ) (k2 : ¬ (b < a) → jV X d P Q j2 L r μ) : jV X d P Q i L (.inl b :: .inl a :: r) μ := jm_fold (jm_CW_mono X jm_PP d) he (by subst hj; subst hj2; exact And.intro k1 k2)
theorem jv_icmp_gtT {a b t off : Int} (he : P[i]? = some (pc, .if_icmp .gt off, len, [t])) (hj : t.toNat = j) (hc : b < a) (k1 : jV X d P Q j L r μ) : jV X d P Q i L (.inl b :: .inl a :: r) μ := jm_fold (jm_CW_mono X jm_PP d) he (by subst hj; exact And.intro (fun _ => k1) (fun q => absurd hc q))
theorem jv_icmp_gtF {a b t off : Int} (he : P[i]? = some (pc, .if_icmp .gt off, len, [t])) (hj : i + 1 = j) (hc : ¬ (b < a)) (k1 : jV X d P Q j L r μ) : jV X d P Q i L (.inl b :: .inl a :: r) μ := jm_fold (jm_CW_mono X jm_PP d) he (by subst hj; exact And.intro (fun q => absurd q hc) (fun _ => k1))
theorem jv_if_le {a t off : Int} {j2 : Nat} (he : P[i]? = some (pc, .ifCond .le off, len, [t])) (hj : t.toNat = j) (hj2 : i + 1 = j2) (k1 : a ≤ 0 → jV X d P Q j L r μ) (k2 : ¬ (a ≤ 0) → jV X d P Q j2 L r μ) : jV X d P Q i L (.inl a :: r) μ := jm_fold (jm_CW_mono X jm_PP d) he (by subst hj; subst hj2; exact And.intro k1 k2)
theorem jv_if_leT {a t off : Int} (he : P[i]? = some (pc, .ifCond .le off, len, [t])) (hj : t.toNat = j) (hc : a ≤ 0) (k1 : jV X d P Q j L r μ) : jV X d P Q i L (.inl a :: r) μ := jm_fold (jm_CW_mono X jm_PP d) he (by subst hj; exact And.intro (fun _ => k1) (fun q => absurd hc q))
theorem jv_if_leF {a t off : Int} (he : P[i]? = some (pc, .ifCond .le off, len, [t])) (hj : i + 1 = j) (hc : ¬ (a ≤ 0)) (k1 : jV X d P Q j L r μ) : jV X d P Q i L (.inl a :: r) μ := jm_fold (jm_CW_mono X jm_PP d) he (by subst hj; exact And.intro (fun q => absurd q hc) (fun _ => k1))
theorem jv_icmp_le {a b t off : Int} {j2 : Nat} (he : P[i]? = some (pc, .if_icmp .le off, len, [t])) (hj : t.toNat = j) (hj2 : i + 1 = j2) (k1 : a ≤ b → jV X d P Q j L r μ) (k2 : ¬ (a ≤ b) → jV X d P Q j2 L r μ) : jV X d P Q i L (.inl b :: .inl a :: r) μ := jm_fold (jm_CW_mono X jm_PP d) he (by subst hj; subst hj2; exact And.intro k1 k2)
theorem jv_icmp_leT {a b t off : Int} (he : P[i]? = some (pc, .if_icmp .le off, len, [t])) (hj : t.toNat = j) (hc : a ≤ b) (k1 : jV X d P Q j L r μ) : jV X d P Q i L (.inl b :: .inl a :: r) μ := jm_fold (jm_CW_mono X jm_PP d) he (by subst hj; exact And.intro (fun _ => k1) (fun q => absurd hc q))
theorem jv_icmp_leF {a b t off : Int} (he : P[i]? = some (pc, .if_icmp .le off, len, [t])) (hj : i + 1 = j) (hc : ¬ (a ≤ b)) (k1 : jV X d P Q j L r μ) : jV X d P Q i L (.inl b :: .inl a :: r) μ := jm_fold (jm_CW_mono X jm_PP d) he (by subst hj; exact And.intro (fun q => absurd q hc) (fun _ => k1))
theorem jv_goto {t off : Int} (he : P[i]? = some (pc, .goto off, len, [t])) (hj : t.toNat = j) (k : jV X d P Q j L (st) μ) : jV X d P Q i L st μ := jm_fold (jm_CW_mono X jm_PP d) he (by subst hj; exact k)
theorem jv_tsw {a dd lo hi : Int} {offs : Array Int} (he : P[i]? = some (pc, .tableswitch dd lo hi offs, len, res)) (k : jm_sw (fun t => jV X d P Q t L r μ) a res) : jV X d P Q i L (.inl a :: r) μ := jm_fold (jm_CW_mono X jm_PP d) he k
theorem jv_lsw {a dd : Int} {ps : Array (Int × Int)} (he : P[i]? = some (pc, .lookupswitch dd ps, len, res)) (k : jm_sw (fun t => jV X d P Q t L r μ) a res) : jV X d P Q i L (.inl a :: r) μ := jm_fold (jm_CW_mono X jm_PP d) he k
theorem jv_geti {x : Nat} {z c k0 t : Int} {kd ln : Nat} {rf : List Int} (he : P[i]? = some (pc, .getfield x, len, [c, k0, t])) (hj : i + 1 = j) (hs : jm_SH[z.toNat]? = some (kd, ln, rf)) (hz : 0 ≤ z ∧ kd = 10 + c.toNat) (ht : ¬ t = 2) (k : jV X d P Q j L (.inl (μ z k0) :: r) μ) : jV X d P Q i L (.inr (.inr z) :: r) μ := jm_fold (jm_CW_mono X jm_PP d) he (by subst hj; simp only [jm_sem, hs, if_neg ht]; exact And.intro hz k)
theorem jv_getr {x : Nat} {z c k0 t w : Int} {kd ln : Nat} {rf : List Int} (he : P[i]? = some (pc, .getfield x, len, [c, k0, t])) (hj : i + 1 = j) (hs : jm_SH[z.toNat]? = some (kd, ln, rf)) (hz : 0 ≤ z ∧ kd = 10 + c.toNat) (ht : t = 2) (hw : rf.getD k0.toNat (-1) = w) (k : jV X d P Q j L (.inr (.inr w) :: r) μ) : jV X d P Q i L (.inr (.inr z) :: r) μ := jm_fold (jm_CW_mono X jm_PP d) he (by subst hj; subst hw; simp only [jm_sem, hs, if_pos ht]; exact And.intro hz k)
theorem jv_puti {x : Nat} {z c k0 t v : Int} {kd ln : Nat} {rf : List Int} (he : P[i]? = some (pc, .putfield x, len, [c, k0, t])) (hj : i + 1 = j) (hs : jm_SH[z.toNat]? = some (kd, ln, rf)) (hz : 0 ≤ z ∧ kd = 10 + c.toNat) (ht : t = 0 ∨ (t = 1 ∧ (v = 0 ∨ v = 1))) (k : ∀ μ2, μ2 = jm_uc μ z (jm_u1 (μ z) k0 v) → jV X d P Q j L r μ2) : jV X d P Q i L (.inl v :: .inr (.inr z) :: r) μ := jm_fold (jm_CW_mono X jm_PP d) he (by subst hj; simp only [jm_sem, hs]; exact And.intro hz (And.intro ht (k _ rfl)))
theorem jv_getstatic {x : Nat} {k0 : Int} (he : P[i]? = some (pc, .getstatic x, len, [k0])) (hj : i + 1 = j) (k : jV X d P Q j L (.inr (.inr k0) :: st) μ) : jV X d P Q i L st μ := jm_fold (jm_CW_mono X jm_PP d) he (by subst hj; exact k)
theorem jv_iaload {z a : Int} {ln : Nat} {rf : List Int} (he : P[i]? = some (pc, .iaload, len, res)) (hj : i + 1 = j) (hz : 0 ≤ z) (hs : jm_SH[z.toNat]? = some (0, ln, rf)) (hb : 0 ≤ a ∧ a < ln) (k : jV X d P Q j L (.inl (μ z a) :: r) μ) : jV X d P Q i L (.inl a :: .inr (.inr z) :: r) μ := jm_fold (jm_CW_mono X jm_PP d) he (by subst hj; simp only [jm_sem, if_pos hz, hs]; exact And.intro (by trivial) (And.intro hb k))
theorem jv_xaload {z a : Int} {ln : Nat} {f : Int → Int} (he : P[i]? = some (pc, .iaload, len, res)) (hj : i + 1 = j) (hz : z ≤ -2 ∧ -7 ≤ z) (hs : X (-2 - z).toNat = (ln, f)) (hb : 0 ≤ a ∧ a < ln) (k : jV X d P Q j L (.inl (f a) :: r) μ) : jV X d P Q i L (.inl a :: .inr (.inr z) :: r) μ := jm_fold (jm_CW_mono X jm_PP d) he (by subst hj; simp only [jm_sem, if_neg (show ¬ 0 ≤ z by omega), hs]; exact And.intro hz (And.intro hb k))
theorem jv_baload {z a : Int} {ln : Nat} {rf : List Int} (he : P[i]? = some (pc, .baload, len, res)) (hj : i + 1 = j) (hs : jm_SH[z.toNat]? = some (1, ln, rf)) (hz : 0 ≤ z) (hb : 0 ≤ a ∧ a < ln) (k : jV X d P Q j L (.inl (μ z a) :: r) μ) : jV X d P Q i L (.inl a :: .inr (.inr z) :: r) μ := jm_fold (jm_CW_mono X jm_PP d) he (by subst hj; simp only [jm_sem, hs]; exact And.intro ⟨hz, by trivial⟩ (And.intro hb k))
theorem jv_aaload {z a : Int} {kd ln : Nat} {rf : List Int} (he : P[i]? = some (pc, .aaload, len, res)) (hj : i + 1 = j) (hs : jm_SH[z.toNat]? = some (kd, ln, rf)) (hz : 0 ≤ z ∧ 2 ≤ kd ∧ kd < 5) (hb : 0 ≤ a ∧ a < ln) (k : jV X d P Q j L (.inr (.inr (μ z a)) :: r) μ) : jV X d P Q i L (.inl a :: .inr (.inr z) :: r) μ := jm_fold (jm_CW_mono X jm_PP d) he (by subst hj; simp only [jm_sem, hs]; exact And.intro hz (And.intro hb k))
theorem jv_iastore {z a v : Int} {ln : Nat} {rf : List Int} (he : P[i]? = some (pc, .iastore, len, res)) (hj : i + 1 = j) (hs : jm_SH[z.toNat]? = some (0, ln, rf)) (hz : 0 ≤ z) (hb : 0 ≤ a ∧ a < ln) (k : ∀ μ2, μ2 = jm_uc μ z (jm_u1 (μ z) a v) → jV X d P Q j L r μ2) : jV X d P Q i L (.inl v :: .inl a :: .inr (.inr z) :: r) μ := jm_fold (jm_CW_mono X jm_PP d) he (by subst hj; simp only [jm_sem, hs]; exact And.intro ⟨hz, by trivial⟩ (And.intro hb (k _ rfl)))
theorem jv_bastore {z a v : Int} {ln : Nat} {rf : List Int} (he : P[i]? = some (pc, .bastore, len, res)) (hj : i + 1 = j) (hs : jm_SH[z.toNat]? = some (1, ln, rf)) (hz : 0 ≤ z) (hb : 0 ≤ a ∧ a < ln) (hv : v = 0 ∨ v = 1) (k : ∀ μ2, μ2 = jm_uc μ z (jm_u1 (μ z) a v) → jV X d P Q j L r μ2) : jV X d P Q i L (.inl v :: .inl a :: .inr (.inr z) :: r) μ := jm_fold (jm_CW_mono X jm_PP d) he (by subst hj; simp only [jm_sem, hs]; exact And.intro ⟨hz, by trivial⟩ (And.intro hb (And.intro hv (k _ rfl))))
theorem jv_aastore {z a v : Int} {kd ln kd2 ln2 : Nat} {rf rf2 : List Int} (he : P[i]? = some (pc, .aastore, len, res)) (hj : i + 1 = j) (hs : jm_SH[z.toNat]? = some (kd, ln, rf)) (hs2 : jm_SH[v.toNat]? = some (kd2, ln2, rf2)) (hz : 0 ≤ z ∧ (0 ≤ v ∧ v ≤ 100000) ∧ ((kd = 2 ∧ kd2 = 15) ∨ (kd = 3 ∧ kd2 = 11) ∨ (kd = 4 ∧ kd2 = 14))) (hb : 0 ≤ a ∧ a < ln) (k : ∀ μ2, μ2 = jm_uc μ z (jm_u1 (μ z) a v) → jV X d P Q j L r μ2) : jV X d P Q i L (.inr (.inr v) :: .inl a :: .inr (.inr z) :: r) μ := jm_fold (jm_CW_mono X jm_PP d) he (by subst hj; simp only [jm_sem, hs, hs2]; exact And.intro hz (And.intro hb (k _ rfl)))
theorem jv_alen {z : Int} {ln : Nat} {f : Int → Int} (he : P[i]? = some (pc, .arraylength, len, res)) (hj : i + 1 = j) (hz : z ≤ -2 ∧ -7 ≤ z) (hs : X (-2 - z).toNat = (ln, f)) (k : jV X d P Q j L (.inl (ln : Int) :: r) μ) : jV X d P Q i L (.inr (.inr z) :: r) μ := jm_fold (jm_CW_mono X jm_PP d) he (by subst hj; simp only [jm_sem, hs]; exact And.intro hz k)
theorem jv_min {x : Nat} {a b w : Int} (he : P[i]? = some (pc, .invokestatic x, len, [w])) (hj : i + 1 = j) (hr : r.length ≤ 4) (k : jV X d P Q j L (.inl (min a b) :: r) μ) : jV X d P Q i L (.inl b :: .inl a :: r) μ := jm_fold (jm_CW_mono X jm_PP d) he (by subst hj; exact And.intro hr k)
theorem jv_acopy {x : Nat} {n dp dd sp qq : Int} {ln ln2 : Nat} {rf rf2 : List Int} (he : P[i]? = some (pc, .invokestatic x, len, [])) (hj : i + 1 = j) (hs : jm_SH[qq.toNat]? = some (0, ln, rf)) (hs2 : jm_SH[dd.toNat]? = some (0, ln2, rf2)) (hz : 0 ≤ qq ∧ 0 ≤ dd) (hr : r.length ≤ 4) (hb : (0 ≤ sp ∧ 0 ≤ dp ∧ 0 ≤ n) ∧ sp + n ≤ ln ∧ dp + n ≤ ln2) (k : ∀ μ2, μ2 = jm_uc μ dd (jm_cpy (μ qq) (μ dd) sp dp n) → jV X d P Q j L r μ2) : jV X d P Q i L (.inl n :: .inl dp :: .inr (.inr dd) :: .inl sp :: .inr (.inr qq) :: r) μ := jm_fold (jm_CW_mono X jm_PP d) he (by subst hj; simp only [jm_sem, hs, hs2]; exact And.intro ⟨hz.1, hz.2, by trivial, by trivial, hr⟩ (And.intro hb (k _ rfl)))
theorem jv_callV0 {x : Nat} {n c z : Int} {f kd ln : Nat} {rf : List Int} (he : P[i]? = some (pc, .invokevirtual x, len, [n, 0, c])) (hj : i + 1 = j) (hf : n.toNat = f) (hs : jm_SH[z.toNat]? = some (kd, ln, rf)) (hz : 0 ≤ z ∧ kd = 10 + c.toNat) (hr : r.length ≤ 4) (k : cV X d f [.inr (.inr z)] μ (fun v μ2 => jV X d P Q j L (v ++ r) μ2)) : jV X d P Q i L (.inr (.inr z) :: r) μ := jm_fold (jm_CW_mono X jm_PP d) he (by
  subst hj hf
  have e1 : List.drop ((0 : Int).toNat) (.inr (.inr z) :: r) = .inr (.inr z) :: r := rfl
  have e2 : (List.take ((0 : Int).toNat) (.inr (.inr z) :: r)).reverse = [] := rfl
  simp only [jm_sem, e1, e2, hs]
  refine And.intro ⟨hz.1, hr, hz.2⟩ (jm_CW_mono X jm_PP d _ _ _ _ _ (fun v h q => ?_) k)
  obtain ⟨h1, h2⟩ := h
  obtain ⟨q1, q2⟩ := q
  cases q1
  exact q2)
theorem jv_callV1 {v1 : jm_V} {x : Nat} {n c z : Int} {f kd ln : Nat} {rf : List Int} (he : P[i]? = some (pc, .invokevirtual x, len, [n, 1, c])) (hj : i + 1 = j) (hf : n.toNat = f) (hs : jm_SH[z.toNat]? = some (kd, ln, rf)) (hz : 0 ≤ z ∧ kd = 10 + c.toNat) (hr : r.length ≤ 4) (k : cV X d f [.inr (.inr z), v1] μ (fun v μ2 => jV X d P Q j L (v ++ r) μ2)) : jV X d P Q i L (v1 :: .inr (.inr z) :: r) μ := jm_fold (jm_CW_mono X jm_PP d) he (by
  subst hj hf
  have e1 : List.drop ((1 : Int).toNat) (v1 :: .inr (.inr z) :: r) = .inr (.inr z) :: r := rfl
  have e2 : (List.take ((1 : Int).toNat) (v1 :: .inr (.inr z) :: r)).reverse = [v1] := rfl
  simp only [jm_sem, e1, e2, hs]
  refine And.intro ⟨hz.1, hr, hz.2⟩ (jm_CW_mono X jm_PP d _ _ _ _ _ (fun v h q => ?_) k)
  obtain ⟨h1, h2⟩ := h
  obtain ⟨q1, q2⟩ := q
  cases q1
  exact q2)
theorem jv_callV2 {v1 v2 : jm_V} {x : Nat} {n c z : Int} {f kd ln : Nat} {rf : List Int} (he : P[i]? = some (pc, .invokevirtual x, len, [n, 2, c])) (hj : i + 1 = j) (hf : n.toNat = f) (hs : jm_SH[z.toNat]? = some (kd, ln, rf)) (hz : 0 ≤ z ∧ kd = 10 + c.toNat) (hr : r.length ≤ 4) (k : cV X d f [.inr (.inr z), v1, v2] μ (fun v μ2 => jV X d P Q j L (v ++ r) μ2)) : jV X d P Q i L (v2 :: v1 :: .inr (.inr z) :: r) μ := jm_fold (jm_CW_mono X jm_PP d) he (by
  subst hj hf
  have e1 : List.drop ((2 : Int).toNat) (v2 :: v1 :: .inr (.inr z) :: r) = .inr (.inr z) :: r := rfl
  have e2 : (List.take ((2 : Int).toNat) (v2 :: v1 :: .inr (.inr z) :: r)).reverse = [v1, v2] := rfl
  simp only [jm_sem, e1, e2, hs]
  refine And.intro ⟨hz.1, hr, hz.2⟩ (jm_CW_mono X jm_PP d _ _ _ _ _ (fun v h q => ?_) k)
  obtain ⟨h1, h2⟩ := h
  obtain ⟨q1, q2⟩ := q
  cases q1
  exact q2)
theorem jv_callV3 {v1 v2 v3 : jm_V} {x : Nat} {n c z : Int} {f kd ln : Nat} {rf : List Int} (he : P[i]? = some (pc, .invokevirtual x, len, [n, 3, c])) (hj : i + 1 = j) (hf : n.toNat = f) (hs : jm_SH[z.toNat]? = some (kd, ln, rf)) (hz : 0 ≤ z ∧ kd = 10 + c.toNat) (hr : r.length ≤ 4) (k : cV X d f [.inr (.inr z), v1, v2, v3] μ (fun v μ2 => jV X d P Q j L (v ++ r) μ2)) : jV X d P Q i L (v3 :: v2 :: v1 :: .inr (.inr z) :: r) μ := jm_fold (jm_CW_mono X jm_PP d) he (by
  subst hj hf
  have e1 : List.drop ((3 : Int).toNat) (v3 :: v2 :: v1 :: .inr (.inr z) :: r) = .inr (.inr z) :: r := rfl
  have e2 : (List.take ((3 : Int).toNat) (v3 :: v2 :: v1 :: .inr (.inr z) :: r)).reverse = [v1, v2, v3] := rfl
  simp only [jm_sem, e1, e2, hs]
  refine And.intro ⟨hz.1, hr, hz.2⟩ (jm_CW_mono X jm_PP d _ _ _ _ _ (fun v h q => ?_) k)
  obtain ⟨h1, h2⟩ := h
  obtain ⟨q1, q2⟩ := q
  cases q1
  exact q2)
theorem jv_callV4 {v1 v2 v3 v4 : jm_V} {x : Nat} {n c z : Int} {f kd ln : Nat} {rf : List Int} (he : P[i]? = some (pc, .invokevirtual x, len, [n, 4, c])) (hj : i + 1 = j) (hf : n.toNat = f) (hs : jm_SH[z.toNat]? = some (kd, ln, rf)) (hz : 0 ≤ z ∧ kd = 10 + c.toNat) (hr : r.length ≤ 4) (k : cV X d f [.inr (.inr z), v1, v2, v3, v4] μ (fun v μ2 => jV X d P Q j L (v ++ r) μ2)) : jV X d P Q i L (v4 :: v3 :: v2 :: v1 :: .inr (.inr z) :: r) μ := jm_fold (jm_CW_mono X jm_PP d) he (by
  subst hj hf
  have e1 : List.drop ((4 : Int).toNat) (v4 :: v3 :: v2 :: v1 :: .inr (.inr z) :: r) = .inr (.inr z) :: r := rfl
  have e2 : (List.take ((4 : Int).toNat) (v4 :: v3 :: v2 :: v1 :: .inr (.inr z) :: r)).reverse = [v1, v2, v3, v4] := rfl
  simp only [jm_sem, e1, e2, hs]
  refine And.intro ⟨hz.1, hr, hz.2⟩ (jm_CW_mono X jm_PP d _ _ _ _ _ (fun v h q => ?_) k)
  obtain ⟨h1, h2⟩ := h
  obtain ⟨q1, q2⟩ := q
  cases q1
  exact q2)
theorem jv_callV5 {v1 v2 v3 v4 v5 : jm_V} {x : Nat} {n c z : Int} {f kd ln : Nat} {rf : List Int} (he : P[i]? = some (pc, .invokevirtual x, len, [n, 5, c])) (hj : i + 1 = j) (hf : n.toNat = f) (hs : jm_SH[z.toNat]? = some (kd, ln, rf)) (hz : 0 ≤ z ∧ kd = 10 + c.toNat) (hr : r.length ≤ 4) (k : cV X d f [.inr (.inr z), v1, v2, v3, v4, v5] μ (fun v μ2 => jV X d P Q j L (v ++ r) μ2)) : jV X d P Q i L (v5 :: v4 :: v3 :: v2 :: v1 :: .inr (.inr z) :: r) μ := jm_fold (jm_CW_mono X jm_PP d) he (by
  subst hj hf
  have e1 : List.drop ((5 : Int).toNat) (v5 :: v4 :: v3 :: v2 :: v1 :: .inr (.inr z) :: r) = .inr (.inr z) :: r := rfl
  have e2 : (List.take ((5 : Int).toNat) (v5 :: v4 :: v3 :: v2 :: v1 :: .inr (.inr z) :: r)).reverse = [v1, v2, v3, v4, v5] := rfl
  simp only [jm_sem, e1, e2, hs]
  refine And.intro ⟨hz.1, hr, hz.2⟩ (jm_CW_mono X jm_PP d _ _ _ _ _ (fun v h q => ?_) k)
  obtain ⟨h1, h2⟩ := h
  obtain ⟨q1, q2⟩ := q
  cases q1
  exact q2)
theorem jv_callS1 {v1 : jm_V} {x : Nat} {n : Int} {f : Nat} (he : P[i]? = some (pc, .invokestatic x, len, [n, 1])) (hj : i + 1 = j) (hf : n.toNat = f) (hr : r.length ≤ 4) (k : cV X d f [v1] μ (fun v μ2 => jV X d P Q j L (v ++ r) μ2)) : jV X d P Q i L (v1 :: r) μ := jm_fold (jm_CW_mono X jm_PP d) he (by
  subst hj hf
  have e1 : List.drop ((1 : Int).toNat) (v1 :: r) = r := rfl
  have e2 : (List.take ((1 : Int).toNat) (v1 :: r)).reverse = [v1] := rfl
  simp only [jm_sem, e1, e2]
  refine And.intro ⟨by show 1 ≤ (v1 :: r).length; simp, hr⟩ (jm_CW_mono X jm_PP d _ _ _ _ _ (fun v h q => ?_) k)
  obtain ⟨h1, h2⟩ := h
  obtain ⟨q1, q2⟩ := q
  cases q1
  exact q2)
theorem jv_callS2 {v1 v2 : jm_V} {x : Nat} {n : Int} {f : Nat} (he : P[i]? = some (pc, .invokestatic x, len, [n, 2])) (hj : i + 1 = j) (hf : n.toNat = f) (hr : r.length ≤ 4) (k : cV X d f [v1, v2] μ (fun v μ2 => jV X d P Q j L (v ++ r) μ2)) : jV X d P Q i L (v2 :: v1 :: r) μ := jm_fold (jm_CW_mono X jm_PP d) he (by
  subst hj hf
  have e1 : List.drop ((2 : Int).toNat) (v2 :: v1 :: r) = r := rfl
  have e2 : (List.take ((2 : Int).toNat) (v2 :: v1 :: r)).reverse = [v1, v2] := rfl
  simp only [jm_sem, e1, e2]
  refine And.intro ⟨by show 2 ≤ (v2 :: v1 :: r).length; simp, hr⟩ (jm_CW_mono X jm_PP d _ _ _ _ _ (fun v h q => ?_) k)
  obtain ⟨h1, h2⟩ := h
  obtain ⟨q1, q2⟩ := q
  cases q1
  exact q2)
theorem jv_callS3 {v1 v2 v3 : jm_V} {x : Nat} {n : Int} {f : Nat} (he : P[i]? = some (pc, .invokestatic x, len, [n, 3])) (hj : i + 1 = j) (hf : n.toNat = f) (hr : r.length ≤ 4) (k : cV X d f [v1, v2, v3] μ (fun v μ2 => jV X d P Q j L (v ++ r) μ2)) : jV X d P Q i L (v3 :: v2 :: v1 :: r) μ := jm_fold (jm_CW_mono X jm_PP d) he (by
  subst hj hf
  have e1 : List.drop ((3 : Int).toNat) (v3 :: v2 :: v1 :: r) = r := rfl
  have e2 : (List.take ((3 : Int).toNat) (v3 :: v2 :: v1 :: r)).reverse = [v1, v2, v3] := rfl
  simp only [jm_sem, e1, e2]
  refine And.intro ⟨by show 3 ≤ (v3 :: v2 :: v1 :: r).length; simp, hr⟩ (jm_CW_mono X jm_PP d _ _ _ _ _ (fun v h q => ?_) k)
  obtain ⟨h1, h2⟩ := h
  obtain ⟨q1, q2⟩ := q
  cases q1
  exact q2)
theorem jv_ireturn {v t : Int} (he : P[i]? = some (pc, .ireturn, len, [t])) (ht : t = 0 ∨ (t = 1 ∧ (v = 0 ∨ v = 1))) (k : Q [.inl v] μ) : jV X d P Q i L [.inl v] μ := jm_fold (jm_CW_mono X jm_PP d) he (And.intro ht (And.intro rfl k))
theorem jv_return (he : P[i]? = some (pc, .return_, len, res)) (k : Q [] μ) : jV X d P Q i L [] μ := jm_fold (jm_CW_mono X jm_PP d) he (And.intro rfl k)
end JVR
