/-! rows in their order, the first of the best -/
abbrev jB : Type := Int × List Int
/-- a row's number at a place -/
def jF_ (p : List Int) : Int → Int := fun j => p.getD j.toNat 0
def jup (cost : List Int → Int) (p : List Int) (b : jB) : jB := if cost p < b.1 then (cost p, p) else b
def jbf (cost : List Int → Int) : List (List Int) → jB → jB
  | [], b => b
  | p :: r, b => jbf cost r (jup cost p b)
def jlp (f : Nat → jB → jB) : Nat → jB → jB
  | 0, b => b
  | c + 1, b => f c (jlp f c b)
def jdf (cost : List Int → Int) (n : Nat) : Nat → List Int → jB → jB
  | 0, p, b => jup cost p b
  | k + 1, p, b => jlp (fun c b => if (c : Int) ∈ p then b else jdf cost n k (p ++ [(c : Int)]) b) n b
def jpl (g : Nat → List (List Int)) : Nat → List (List Int)
  | 0 => []
  | c + 1 => jpl g c ++ g c
def jpm (n : Nat) : Nat → List Int → List (List Int)
  | 0, p => [p]
  | k + 1, p => jpl (fun c => if (c : Int) ∈ p then [] else jpm n k (p ++ [(c : Int)])) n
theorem jbf_app {cost : List Int → Int} : ∀ (x y : List (List Int)) (b : jB), jbf cost (x ++ y) b = jbf cost y (jbf cost x b)
  | [], y, b => rfl
  | p :: r, y, b => jbf_app r y (jup cost p b)
theorem jdf_bf {cost : List Int → Int} {n : Nat} : ∀ (k : Nat) (p : List Int) (b : jB), jdf cost n k p b = jbf cost (jpm n k p) b
  | 0, p, b => rfl
  | k + 1, p, b => by
    have h : ∀ c, jlp (fun c b => if (c : Int) ∈ p then b else jdf cost n k (p ++ [(c : Int)]) b) c b = jbf cost (jpl (fun c => if (c : Int) ∈ p then [] else jpm n k (p ++ [(c : Int)])) c) b := by
      intro c
      induction c with
      | zero => rfl
      | succ c ih =>
        simp only [jlp, jpl]
        rw [ih, jbf_app]
        by_cases q : (c : Int) ∈ p
        · rw [if_pos q, if_pos q]
          rfl
        · rw [if_neg q, if_neg q, jdf_bf k]
    exact h n
theorem jbf_le {cost : List Int → Int} : ∀ (x : List (List Int)) (b : jB), (jbf cost x b).1 ≤ b.1
  | [], b => Int.le_refl _
  | p :: r, b => by
    have h := jbf_le (cost := cost) r (jup cost p b)
    have q : (jup cost p b).1 ≤ b.1 := by
      unfold jup
      split
      · show cost p ≤ b.1
        omega
      · exact Int.le_refl _
    simp only [jbf]
    omega
theorem jF_lt {p : List Int} {c j : Int} (h0 : 0 ≤ j) (h : j < p.length) : jF_ (p ++ [c]) j = jF_ p j := by
  unfold jF_
  rw [List.getD_eq_getElem?_getD, List.getD_eq_getElem?_getD, List.getElem?_append_left (by omega)]
theorem jF_eq {p : List Int} {c : Int} : jF_ (p ++ [c]) p.length = c := by
  unfold jF_
  rw [List.getD_eq_getElem?_getD, show ((p.length : Nat) : Int).toNat = p.length by omega, List.getElem?_concat_length]
  rfl
theorem jF_mem {p : List Int} {j : Int} (h0 : 0 ≤ j) (h : j < p.length) : jF_ p j ∈ p := by
  unfold jF_
  rw [List.getD_eq_getElem?_getD, List.getElem?_eq_getElem (show j.toNat < p.length by omega)]
  exact List.getElem_mem _
theorem jF_of {p : List Int} {c : Int} (h : c ∈ p) : ∃ j : Int, 0 ≤ j ∧ j < p.length ∧ jF_ p j = c := by
  obtain ⟨i, hi, e⟩ := List.getElem_of_mem h
  refine ⟨i, by omega, by omega, ?_⟩
  unfold jF_
  rw [List.getD_eq_getElem?_getD, show ((i : Nat) : Int).toNat = i by omega, List.getElem?_eq_getElem hi, ← e]
  rfl
/-- a row of numbers under n, each once -/
def jpv (n : Int) (p : List Int) : Prop := (∀ c ∈ p, 0 ≤ c ∧ c < n) ∧ ∀ i j : Int, 0 ≤ i → i < p.length → 0 ≤ j → j < p.length → jF_ p i = jF_ p j → i = j
theorem jpv_app {n c : Int} {p : List Int} (h : jpv n p) (hc : 0 ≤ c ∧ c < n) (hn : c ∉ p) : jpv n (p ++ [c]) := by
  have hl : (p ++ [c]).length = p.length + 1 := by simp
  refine ⟨fun x hx => ?_, fun i j i0 i1 j0 j1 e => ?_⟩
  · rw [List.mem_append, List.mem_singleton] at hx
    rcases hx with q | q
    · exact h.1 x q
    · rw [q]; exact hc
  · rw [hl] at i1 j1
    by_cases a : i = p.length
    · by_cases b : j = p.length
      · omega
      · exfalso
        rw [a, jF_eq, jF_lt j0 (by omega)] at e
        exact hn (e ▸ jF_mem j0 (by omega))
    · by_cases b : j = p.length
      · exfalso
        rw [b, jF_eq, jF_lt i0 (by omega)] at e
        exact hn (e ▸ jF_mem i0 (by omega))
      · rw [jF_lt i0 (by omega), jF_lt j0 (by omega)] at e
        exact h.2 i j i0 (by omega) j0 (by omega) e
theorem jb_orv : ∀ v : Fin 64, ∀ c : Fin 6, (jm_or (v.val : Int) (jm_shl 1 (c.val : Int)) = ((v.val ||| 2 ^ c.val : Nat) : Int)) ∧ (v.val ||| 2 ^ c.val) < 64 ∧ ∀ k : Fin 6, (jm_and (jm_shr (((v.val ||| 2 ^ c.val : Nat) : Int)) (k.val : Int)) 1 = 0 ↔ (jm_and (jm_shr (v.val : Int) (k.val : Int)) 1 = 0 ∧ k ≠ c)) := by decide +kernel
theorem jb_or {v c : Int} (v0 : 0 ≤ v) (v1 : v < 64) (c0 : 0 ≤ c) (c1 : c < 6) : (0 ≤ jm_or v (jm_shl 1 c) ∧ jm_or v (jm_shl 1 c) < 64) ∧ ∀ k, 0 ≤ k → k < 6 → (jm_and (jm_shr (jm_or v (jm_shl 1 c)) k) 1 = 0 ↔ (jm_and (jm_shr v k) 1 = 0 ∧ k ≠ c)) := by
  obtain ⟨n, rfl⟩ := Int.eq_ofNat_of_zero_le v0
  obtain ⟨m, rfl⟩ := Int.eq_ofNat_of_zero_le c0
  obtain ⟨h1, h2, h3⟩ := jb_orv ⟨n, by omega⟩ ⟨m, by omega⟩
  dsimp only at h1 h2 h3
  rw [h1]
  refine ⟨by omega, fun k k0 k1 => ?_⟩
  obtain ⟨x, rfl⟩ := Int.eq_ofNat_of_zero_le k0
  have q := h3 ⟨x, by omega⟩
  dsimp only at q
  rw [q]
  constructor
  · rintro ⟨a, b⟩
    exact ⟨a, fun z => b (Fin.ext (show x = m by omega))⟩
  · rintro ⟨a, b⟩
    exact ⟨a, fun z => b (by have := congrArg Fin.val z; dsimp only at this; omega)⟩
/-- who has been taken, as bits -/
def jtk (v : Int) (p : List Int) : Prop := (0 ≤ v ∧ v < 64) ∧ ∀ c, 0 ≤ c → c < 6 → (jm_and (jm_shr v c) 1 = 0 ↔ c ∉ p)
theorem jtk_app {v c : Int} {p : List Int} (h : jtk v p) (c0 : 0 ≤ c) (c1 : c < 6) : jtk (jm_or v (jm_shl 1 c)) (p ++ [c]) := by
  obtain ⟨a, b⟩ := jb_or h.1.1 h.1.2 c0 c1
  refine ⟨a, fun x x0 x1 => ?_⟩
  rw [b x x0 x1, h.2 x x0 x1, List.mem_append, List.mem_singleton]
  constructor
  · rintro ⟨q, r⟩ (s | s)
    · exact q s
    · exact r s
  · intro q
    exact ⟨fun s => q (Or.inl s), fun s => q (Or.inr s)⟩
theorem jtk_0 : jtk 0 [] := ⟨by decide, fun c c0 c1 => by
  have q : ∀ k : Fin 6, jm_and (jm_shr 0 (k.val : Int)) 1 = 0 := by decide +kernel
  obtain ⟨x, rfl⟩ := Int.eq_ofNat_of_zero_le c0
  have r := q ⟨x, by omega⟩
  simp
  exact r⟩
/-! the reference's next row -/
def jnk (f : Int → Int) : Nat → Int
  | 0 => -1
  | k + 1 => if f (k + 1) < f k then jnk f k else k
def jnj (f : Int → Int) (x : Int) : Nat → Int
  | 0 => 0
  | j + 1 => if f (j + 1) < x then jnj f x j else j + 1
def jns (f : Int → Int) (a b : Int) : Int → Int := jm_u1 (jm_u1 f a (f b)) b (f a)
def jrv : Nat → Int → Int → (Int → Int) → (Int → Int)
  | 0, _, _, f => f
  | m + 1, a, b, f => if a < b then jrv m (a + 1) (b - 1) (jns f a b) else f
def jnx (n : Nat) (f : Int → Int) : Int → Int := jrv 6 (jnk f (n - 1) + 1) (n - 1) (jns f (jnk f (n - 1)) (jnj f (f (jnk f (n - 1))) (n - 1)))
def jck (n : Nat) : List (List Int) → Bool
  | [] => false
  | a :: r => (a.length == n && a.all (fun x => decide (0 ≤ x ∧ x < (n : Int)))) && (match r with
    | [] => decide (jnk (jF_ a) (n - 1) < 0)
    | b :: _ => decide (0 ≤ jnk (jF_ a) (n - 1)) && ((List.range n).all (fun j => decide (jnx n (jF_ a) j = jF_ b j)) && jck n r))
def jck0 (n : Nat) : Bool := jck n (jpm n n []) && (match jpm n n [] with
  | [] => false
  | a :: _ => (List.range n).all (fun j => decide (jF_ a j = (j : Int))))
set_option maxRecDepth 100000 in
theorem jck_ok : ∀ n : Fin 7, jck0 n.val = true := by decide +kernel
theorem jnk_r {f : Int → Int} : ∀ k : Nat, -1 ≤ jnk f k ∧ jnk f k < (k : Int)
  | 0 => by simp only [jnk]; omega
  | k + 1 => by
    have i := jnk_r (f := f) k
    simp only [jnk]
    split <;> omega
theorem jnk_le {f : Int → Int} : ∀ k : Nat, 0 ≤ jnk f k → f (jnk f k) ≤ f (jnk f k + 1)
  | 0, h => by simp only [jnk] at h; omega
  | k + 1, h => by
    simp only [jnk] at h ⊢
    split
    · rename_i q
      rw [if_pos q] at h
      exact jnk_le k h
    · omega
theorem jnk_cong {f g : Int → Int} : ∀ k : Nat, (∀ j, 0 ≤ j → j ≤ (k : Int) → f j = g j) → jnk f k = jnk g k
  | 0, _ => rfl
  | k + 1, h => by
    simp only [jnk]
    rw [h (k + 1) (by omega) (by omega), h k (by omega) (by omega), jnk_cong k (fun j a b => h j a (by omega))]
theorem jnj_r {f : Int → Int} {x : Int} : ∀ k : Nat, 0 ≤ jnj f x k ∧ jnj f x k ≤ (k : Int)
  | 0 => by simp only [jnj]; omega
  | k + 1 => by
    have i := jnj_r (f := f) (x := x) k
    simp only [jnj]
    split <;> omega
theorem jnj_cong {f g : Int → Int} {x : Int} : ∀ k : Nat, (∀ j, 0 ≤ j → j ≤ (k : Int) → f j = g j) → jnj f x k = jnj g x k
  | 0, _ => rfl
  | k + 1, h => by
    simp only [jnj]
    rw [h (k + 1) (by omega) (by omega), jnj_cong k (fun j a b => h j a (by omega))]
theorem jns_cong {f g : Int → Int} {n a b : Int} (h : ∀ j, 0 ≤ j → j < n → f j = g j) (ha : 0 ≤ a ∧ a < n) (hb : 0 ≤ b ∧ b < n) : ∀ j, 0 ≤ j → j < n → jns f a b j = jns g a b j := fun j j0 j1 => by
  unfold jns jm_u1
  rw [h a ha.1 ha.2, h b hb.1 hb.2, h j j0 j1]
theorem jrv_cong {n : Int} : ∀ (m : Nat) (a b : Int) (f g : Int → Int), (∀ j, 0 ≤ j → j < n → f j = g j) → 0 ≤ a → b < n → ∀ j, 0 ≤ j → j < n → jrv m a b f j = jrv m a b g j
  | 0, _, _, _, _, h, _, _, j, j0, j1 => h j j0 j1
  | m + 1, a, b, f, g, h, a0, bn, j, j0, j1 => by
    simp only [jrv]
    by_cases q : a < b
    · rw [if_pos q, if_pos q]
      exact jrv_cong m (a + 1) (b - 1) _ _ (jns_cong h ⟨a0, by omega⟩ ⟨by omega, bn⟩) (by omega) (by omega) j j0 j1
    · rw [if_neg q, if_neg q]
      exact h j j0 j1
theorem jnx_cong {n : Nat} {f g : Int → Int} (h : ∀ j, 0 ≤ j → j < (n : Int) → f j = g j) (hk : 0 ≤ jnk f (n - 1)) : ∀ j, 0 ≤ j → j < (n : Int) → jnx n f j = jnx n g j := fun j j0 j1 => by
  have e1 : jnk f (n - 1) = jnk g (n - 1) := jnk_cong _ (fun j a b => h j a (by omega))
  have r := jnk_r (f := f) (n - 1)
  unfold jnx
  rw [← e1, ← h (jnk f (n - 1)) hk (by omega), ← jnj_cong (f := f) (g := g) (n - 1) (fun j a b => h j a (by omega))]
  have rj := jnj_r (f := f) (x := f (jnk f (n - 1))) (n - 1)
  exact jrv_cong (n := n) 6 _ _ _ _ (jns_cong h ⟨hk, by omega⟩ ⟨rj.1, by omega⟩) (by omega) (by omega) j j0 j1
