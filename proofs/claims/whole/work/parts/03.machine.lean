/-! A small machine over whole numbers: values are an int, a long or a reference; cells are numbered in the order of their making. -/
abbrev jm_V : Type := Int ⊕ (Int ⊕ Int)
/-- a cell's kind (0 int[], 1 boolean[], 2 .. 9 arrays of references, 10 + c an object of class c), its length, its reference fields -/
abbrev jm_S : Type := Nat × Nat × List Int
abbrev jm_M : Type := Int → Int → Int
abbrev jm_H : Type := List jm_S × jm_M
abbrev jm_E : Type := Nat × Instr × Nat × List Int
abbrev jm_L : Type := List (Option jm_V)
abbrev jm_K : Type := Nat → jm_L → List jm_V → jm_H → Prop
abbrev jm_Q : Type := List jm_V → jm_H → Prop
abbrev jm_C : Type := Nat → List jm_V → jm_H → jm_Q → Prop
abbrev jm_X : Type := Nat → Nat × (Int → Int)
abbrev jm_vi (z : Int) : jm_V := .inl z
abbrev jm_vl (z : Int) : jm_V := .inr (.inl z)
abbrev jm_vr (z : Int) : jm_V := .inr (.inr z)
abbrev jm_r (z : Int) : Prop := -2147483648 ≤ z ∧ z ≤ 2147483647
abbrev jm_rl (z : Int) : Prop := -9223372036854775808 ≤ z ∧ z ≤ 9223372036854775807
def jm_and (a b : Int) : Int := (Int32.ofInt a &&& Int32.ofInt b).toInt
def jm_or (a b : Int) : Int := (Int32.ofInt a ||| Int32.ofInt b).toInt
def jm_xor (a b : Int) : Int := (Int32.ofInt a ^^^ Int32.ofInt b).toInt
def jm_shl (a b : Int) : Int := (Int32.ofInt a <<< (Int32.ofInt b &&& 31)).toInt
def jm_shr (a b : Int) : Int := (Int32.ofInt a >>> (Int32.ofInt b &&& 31)).toInt
def jm_ushr (a b : Int) : Int := (((Int32.ofInt a).toUInt32 >>> ((Int32.ofInt b).toUInt32 &&& Int32.toUInt32 31)).toInt32).toInt
def jm_u1 (f : Int → Int) (j v : Int) : Int → Int := fun b => if b = j then v else f b
def jm_uc (μ : jm_M) (z : Int) (f : Int → Int) : jm_M := fun a => if a = z then f else μ a
def jm_cpy (f g : Int → Int) (sp dp n : Int) : Int → Int := fun k => if dp ≤ k ∧ k < dp + n then f (sp + (k - dp)) else g k
/-- a value comes into the locals; a long ahead of it that it cuts is gone -/
def jm_set : jm_L → Nat → jm_V → jm_L
  | [], _, _ => []
  | _ :: r, 0, v => some v :: r
  | o :: r, 1, v => (match o with | some (.inr (.inl _)) => none | o => o) :: jm_set r 0 v
  | o :: r, k + 2, v => o :: jm_set r (k + 1) v
def jm_set2 (L : jm_L) (k : Nat) (v : jm_V) : jm_L := (jm_set L k v).set (k + 1) none
def jm_loc : List jm_V → jm_L
  | [] => []
  | .inl z :: r => some (.inl z) :: jm_loc r
  | .inr (.inl z) :: r => some (.inr (.inl z)) :: none :: jm_loc r
  | .inr (.inr z) :: r => some (.inr (.inr z)) :: jm_loc r
def jm_cond (c : Jvm.ClassFile.Cond) (a b : Int) : Prop := match c with
  | .eq => a = b
  | .ne => ¬ a = b
  | .lt => a < b
  | .ge => b ≤ a
  | .gt => b < a
  | .le => a ≤ b
def jm_tot : List jm_S → Nat
  | [] => 0
  | s :: r => s.2.1 + jm_tot r
/-- a switch: the values with the places where it goes on, then the place for all others -/
def jm_sw (K : Nat → Prop) (a : Int) : List Int → Prop
  | [] => False
  | [t] => K t.toNat
  | v :: t :: r => (a = v → K t.toNat) ∧ (¬ a = v → jm_sw K a r)
/-- class c's field k: 0 an int, 1 a boolean, 2 a reference -/
def jm_ft : List (List Nat) := [[2, 0], [0, 0, 0, 0, 0], [2, 2, 2, 2, 2, 0], [2, 0, 0], [0, 0, 0, 0, 2, 2], [0, 2], [2, 0, 0, 0], [2, 2, 2], [2, 2, 2], [2, 2, 2, 2, 2, 2, 2, 2, 2, 2, 0, 0], [2, 1, 0, 2, 2, 2, 2, 2, 0, 0, 0, 2, 0, 0, 0, 0, 2, 2]]
def jm_fty (c k : Nat) : Nat := (jm_ft.getD c []).getD k 9
/-- what one instruction asks for, so that K may go on behind it. B: how many cells and slots there may be at most; Q: what holds at the end -/
def jm_sem (X : jm_X) (C : jm_C) (B : Nat × Nat) (Q : jm_Q) (K : jm_K) (e : jm_E) (i : Nat) (L : jm_L) (st : List jm_V) (h : jm_H) : Prop :=
  match e.2.1 with
  | .iconst n => K (i + 1) L (.inl n :: st) h
  | .bipush n => K (i + 1) L (.inl n :: st) h
  | .sipush n => K (i + 1) L (.inl n :: st) h
  | .ldc _ => match e.2.2.2 with
    | [v] => K (i + 1) L (.inl v :: st) h
    | _ => False
  | .ldc_w _ => match e.2.2.2 with
    | [v] => K (i + 1) L (.inl v :: st) h
    | _ => False
  | .ldc2_w _ => match e.2.2.2 with
    | [v] => K (i + 1) L (.inr (.inl v) :: st) h
    | _ => False
  | .lconst n => K (i + 1) L (.inr (.inl n.val) :: st) h
  | .iload k => match L[k]? with
    | some (some (.inl z)) => K (i + 1) L (.inl z :: st) h
    | _ => False
  | .iload_n k => match L[k.val]? with
    | some (some (.inl z)) => K (i + 1) L (.inl z :: st) h
    | _ => False
  | .lload k => match L[k]? with
    | some (some (.inr (.inl z))) => K (i + 1) L (.inr (.inl z) :: st) h
    | _ => False
  | .lload_n k => match L[k.val]? with
    | some (some (.inr (.inl z))) => K (i + 1) L (.inr (.inl z) :: st) h
    | _ => False
  | .aload k => match L[k]? with
    | some (some (.inr (.inr z))) => ¬ z = -1 ∧ K (i + 1) L (.inr (.inr z) :: st) h
    | _ => False
  | .aload_n k => match L[k.val]? with
    | some (some (.inr (.inr z))) => ¬ z = -1 ∧ K (i + 1) L (.inr (.inr z) :: st) h
    | _ => False
  | .istore k => match st with
    | .inl z :: r => K (i + 1) (jm_set L k (.inl z)) r h
    | _ => False
  | .istore_n k => match st with
    | .inl z :: r => K (i + 1) (jm_set L k.val (.inl z)) r h
    | _ => False
  | .lstore k => match st with
    | .inr (.inl z) :: r => K (i + 1) (jm_set2 L k (.inr (.inl z))) r h
    | _ => False
  | .lstore_n k => match st with
    | .inr (.inl z) :: r => K (i + 1) (jm_set2 L k.val (.inr (.inl z))) r h
    | _ => False
  | .astore k => match st with
    | .inr (.inr z) :: r => ¬ z = -1 ∧ K (i + 1) (jm_set L k (.inr (.inr z))) r h
    | _ => False
  | .astore_n k => match st with
    | .inr (.inr z) :: r => ¬ z = -1 ∧ K (i + 1) (jm_set L k.val (.inr (.inr z))) r h
    | _ => False
  | .iinc k n => match L[k]? with
    | some (some (.inl z)) => jm_r (z + n) ∧ K (i + 1) (jm_set L k (.inl (z + n))) st h
    | _ => False
  | .iadd => match st with
    | .inl b :: .inl a :: r => jm_r (a + b) ∧ K (i + 1) L (.inl (a + b) :: r) h
    | _ => False
  | .isub => match st with
    | .inl b :: .inl a :: r => jm_r (a - b) ∧ K (i + 1) L (.inl (a - b) :: r) h
    | _ => False
  | .imul => match st with
    | .inl b :: .inl a :: r => jm_r (a * b) ∧ K (i + 1) L (.inl (a * b) :: r) h
    | _ => False
  | .idiv => match st with
    | .inl b :: .inl a :: r => (0 ≤ a ∧ 0 < b) ∧ K (i + 1) L (.inl (a / b) :: r) h
    | _ => False
  | .irem => match st with
    | .inl b :: .inl a :: r => (0 ≤ a ∧ 0 < b) ∧ K (i + 1) L (.inl (a % b) :: r) h
    | _ => False
  | .ineg => match st with
    | .inl a :: r => jm_r (-a) ∧ K (i + 1) L (.inl (-a) :: r) h
    | _ => False
  | .iand => match st with
    | .inl b :: .inl a :: r => K (i + 1) L (.inl (jm_and a b) :: r) h
    | _ => False
  | .ior => match st with
    | .inl b :: .inl a :: r => K (i + 1) L (.inl (jm_or a b) :: r) h
    | _ => False
  | .ixor => match st with
    | .inl b :: .inl a :: r => K (i + 1) L (.inl (jm_xor a b) :: r) h
    | _ => False
  | .ishl => match st with
    | .inl b :: .inl a :: r => K (i + 1) L (.inl (jm_shl a b) :: r) h
    | _ => False
  | .ishr => match st with
    | .inl b :: .inl a :: r => K (i + 1) L (.inl (jm_shr a b) :: r) h
    | _ => False
  | .iushr => match st with
    | .inl b :: .inl a :: r => K (i + 1) L (.inl (jm_ushr a b) :: r) h
    | _ => False
  | .i2l => match st with
    | .inl a :: r => K (i + 1) L (.inr (.inl a) :: r) h
    | _ => False
  | .l2i => match st with
    | .inr (.inl a) :: r => jm_r a ∧ K (i + 1) L (.inl a :: r) h
    | _ => False
  | .i2b => match st with
    | .inl a :: r => K (i + 1) L (.inl (a.bmod 256) :: r) h
    | _ => False
  | .i2s => match st with
    | .inl a :: r => K (i + 1) L (.inl (a.bmod 65536) :: r) h
    | _ => False
  | .ladd => match st with
    | .inr (.inl b) :: .inr (.inl a) :: r => jm_rl (a + b) ∧ K (i + 1) L (.inr (.inl (a + b)) :: r) h
    | _ => False
  | .lmul => match st with
    | .inr (.inl b) :: .inr (.inl a) :: r => jm_rl (a * b) ∧ K (i + 1) L (.inr (.inl (a * b)) :: r) h
    | _ => False
  | .lrem => match st with
    | .inr (.inl b) :: .inr (.inl a) :: r => (0 ≤ a ∧ 0 < b) ∧ K (i + 1) L (.inr (.inl (a % b)) :: r) h
    | _ => False
  | .lcmp => match st with
    | .inr (.inl b) :: .inr (.inl a) :: r => K (i + 1) L (.inl (if a < b then -1 else if a = b then 0 else 1) :: r) h
    | _ => False
  | .dup => match st with
    | .inl a :: r => K (i + 1) L (.inl a :: .inl a :: r) h
    | .inr (.inr a) :: r => K (i + 1) L (.inr (.inr a) :: .inr (.inr a) :: r) h
    | _ => False
  | .dup2 => match st with
    | .inl a :: .inr (.inr b) :: r => K (i + 1) L (.inl a :: .inr (.inr b) :: .inl a :: .inr (.inr b) :: r) h
    | _ => False
  | .pop => match st with
    | .inl _ :: r => K (i + 1) L r h
    | _ => False
  | .ifCond c _ => match st, e.2.2.2 with
    | .inl a :: r, [t] => (jm_cond c a 0 → K t.toNat L r h) ∧ (¬ jm_cond c a 0 → K (i + 1) L r h)
    | _, _ => False
  | .if_icmp c _ => match st, e.2.2.2 with
    | .inl b :: .inl a :: r, [t] => (jm_cond c a b → K t.toNat L r h) ∧ (¬ jm_cond c a b → K (i + 1) L r h)
    | _, _ => False
  | .goto _ => match e.2.2.2 with
    | [t] => K t.toNat L st h
    | _ => False
  | .tableswitch _ _ _ _ => match st with
    | .inl a :: r => jm_sw (fun t => K t L r h) a e.2.2.2
    | _ => False
  | .lookupswitch _ _ => match st with
    | .inl a :: r => jm_sw (fun t => K t L r h) a e.2.2.2
    | _ => False
  | .getfield _ => match st, e.2.2.2 with
    | .inr (.inr z) :: r, [c, k, t] => match h.1[z.toNat]? with
      | some s => (0 ≤ z ∧ s.1 = 10 + c.toNat) ∧ K (i + 1) L ((if t = 2 then .inr (.inr (s.2.2.getD k.toNat (-1))) else .inl (h.2 z k)) :: r) h
      | none => False
    | _, _ => False
  | .putfield _ => match st, e.2.2.2 with
    | .inl v :: .inr (.inr z) :: r, [c, k, t] => match h.1[z.toNat]? with
      | some s => (0 ≤ z ∧ s.1 = 10 + c.toNat) ∧ (t = 0 ∨ (t = 1 ∧ (v = 0 ∨ v = 1))) ∧ K (i + 1) L r (h.1, jm_uc h.2 z (jm_u1 (h.2 z) k v))
      | none => False
    | .inr (.inr v) :: .inr (.inr z) :: r, [c, k, t] => match h.1[z.toNat]? with
      | some s => (0 ≤ z ∧ s.1 = 10 + c.toNat) ∧ (0 ≤ v ∧ t = 2 ∧ k.toNat < s.2.2.length) ∧ K (i + 1) L r (h.1.set z.toNat (s.1, s.2.1, s.2.2.set k.toNat v), h.2)
      | none => False
    | _, _ => False
  | .getstatic _ => match e.2.2.2 with
    | [k] => K (i + 1) L (.inr (.inr k) :: st) h
    | _ => False
  | .iaload => match st with
    | .inl j :: .inr (.inr z) :: r =>
      if 0 ≤ z then match h.1[z.toNat]? with
        | some s => s.1 = 0 ∧ (0 ≤ j ∧ j < s.2.1) ∧ K (i + 1) L (.inl (h.2 z j) :: r) h
        | none => False
      else (z ≤ -2 ∧ -7 ≤ z) ∧ (0 ≤ j ∧ j < (X (-2 - z).toNat).1) ∧ K (i + 1) L (.inl ((X (-2 - z).toNat).2 j) :: r) h
    | _ => False
  | .baload => match st with
    | .inl j :: .inr (.inr z) :: r => match h.1[z.toNat]? with
        | some s => (0 ≤ z ∧ s.1 = 1) ∧ (0 ≤ j ∧ j < s.2.1) ∧ K (i + 1) L (.inl (h.2 z j) :: r) h
        | none => False
    | _ => False
  | .aaload => match st with
    | .inl j :: .inr (.inr z) :: r => match h.1[z.toNat]? with
        | some s => (0 ≤ z ∧ 2 ≤ s.1 ∧ s.1 < 5) ∧ (0 ≤ j ∧ j < s.2.1) ∧ K (i + 1) L (.inr (.inr (h.2 z j)) :: r) h
        | none => False
    | _ => False
  | .iastore => match st with
    | .inl v :: .inl j :: .inr (.inr z) :: r => match h.1[z.toNat]? with
        | some s => (0 ≤ z ∧ s.1 = 0) ∧ (0 ≤ j ∧ j < s.2.1) ∧ K (i + 1) L r (h.1, jm_uc h.2 z (jm_u1 (h.2 z) j v))
        | none => False
    | _ => False
  | .bastore => match st with
    | .inl v :: .inl j :: .inr (.inr z) :: r => match h.1[z.toNat]? with
        | some s => (0 ≤ z ∧ s.1 = 1) ∧ (0 ≤ j ∧ j < s.2.1) ∧ (v = 0 ∨ v = 1) ∧ K (i + 1) L r (h.1, jm_uc h.2 z (jm_u1 (h.2 z) j v))
        | none => False
    | _ => False
  | .aastore => match st with
    | .inr (.inr v) :: .inl j :: .inr (.inr z) :: r => match h.1[z.toNat]?, h.1[v.toNat]? with
        | some s, some q => (0 ≤ z ∧ (0 ≤ v ∧ v ≤ 100000) ∧ ((s.1 = 2 ∧ q.1 = 15) ∨ (s.1 = 3 ∧ q.1 = 11) ∨ (s.1 = 4 ∧ q.1 = 14))) ∧ (0 ≤ j ∧ j < s.2.1) ∧ K (i + 1) L r (h.1, jm_uc h.2 z (jm_u1 (h.2 z) j v))
        | _, _ => False
    | _ => False
  | .arraylength => match st with
    | .inr (.inr z) :: r => (z ≤ -2 ∧ -7 ≤ z) ∧ K (i + 1) L (.inl (X (-2 - z).toNat).1 :: r) h
    | _ => False
  | .newarray ty => match st, e.2.2.2 with
    | .inl n :: r, [k] => ((k = 0 ∧ ty = .int) ∨ (k = 1 ∧ ty = .boolean)) ∧ (0 ≤ n ∧ n ≤ 100000) ∧ (h.1.length + 1 ≤ B.1 ∧ jm_tot h.1 + n.toNat ≤ B.2) ∧ K (i + 1) L (.inr (.inr h.1.length) :: r) (h.1 ++ [(k.toNat, n.toNat, [])], jm_uc h.2 h.1.length (fun _ => 0))
    | _, _ => False
  | .anewarray _ => match st, e.2.2.2 with
    | .inl n :: r, [k] => (2 ≤ k ∧ k < 5) ∧ (0 ≤ n ∧ n ≤ 100000) ∧ (h.1.length + 1 ≤ B.1 ∧ jm_tot h.1 + n.toNat ≤ B.2) ∧ K (i + 1) L (.inr (.inr h.1.length) :: r) (h.1 ++ [(k.toNat, n.toNat, [])], jm_uc h.2 h.1.length (fun _ => -1))
    | _, _ => False
  | .new _ => match e.2.2.2 with
    | [c, n] => (h.1.length + 1 ≤ B.1 ∧ jm_tot h.1 + n.toNat ≤ B.2) ∧ K (i + 1) L (.inr (.inr h.1.length) :: st) (h.1 ++ [(10 + c.toNat, n.toNat, List.replicate n.toNat (-1))], jm_uc h.2 h.1.length (fun _ => 0))
    | _ => False
  | .invokevirtual _ => match e.2.2.2 with
    | [n, a, c] => match st.drop a.toNat with
      | .inr (.inr z) :: r => match h.1[z.toNat]? with
        | some s => (0 ≤ z ∧ r.length ≤ 4 ∧ s.1 = 10 + c.toNat) ∧ C n.toNat (.inr (.inr z) :: (st.take a.toNat).reverse) h (fun v h' => K (i + 1) L (v ++ r) h')
        | none => False
      | _ => False
    | _ => False
  | .invokestatic _ => match e.2.2.2 with
    | [n, a] => (a.toNat ≤ st.length ∧ (st.drop a.toNat).length ≤ 4) ∧ C n.toNat (st.take a.toNat).reverse h (fun v h' => K (i + 1) L (v ++ st.drop a.toNat) h')
    | [_] => match st with
      | .inl b :: .inl a :: r => r.length ≤ 4 ∧ K (i + 1) L (.inl (min a b) :: r) h
      | _ => False
    | [] => match st with
      | .inl n :: .inl dp :: .inr (.inr d) :: .inl sp :: .inr (.inr q) :: r => match h.1[q.toNat]?, h.1[d.toNat]? with
        | some s, some t => (0 ≤ q ∧ 0 ≤ d ∧ s.1 = 0 ∧ t.1 = 0 ∧ r.length ≤ 4) ∧ ((0 ≤ sp ∧ 0 ≤ dp ∧ 0 ≤ n) ∧ sp + n ≤ s.2.1 ∧ dp + n ≤ t.2.1) ∧ K (i + 1) L r (h.1, jm_uc h.2 d (jm_cpy (h.2 q) (h.2 d) sp dp n))
        | _, _ => False
      | _ => False
    | _ => False
  | .invokespecial _ => match e.2.2.2 with
    | [n, mc, ms] => match st with
      | .inr (.inr z) :: r => (0 ≤ z ∧ r.length ≤ 4) ∧ (h.1.length + mc.toNat ≤ B.1 ∧ jm_tot h.1 + ms.toNat ≤ B.2) ∧ C n.toNat [.inr (.inr z)] h (fun v h' => K (i + 1) L (v ++ r) h')
      | _ => False
    | [] => match st with
      | .inr (.inr z) :: r => (0 ≤ z ∧ r.length ≤ 4) ∧ K (i + 1) L r h
      | _ => False
    | _ => False
  | .ireturn => match st, e.2.2.2 with
    | [.inl v], [t] => (t = 0 ∨ (t = 1 ∧ (v = 0 ∨ v = 1))) ∧ Q [.inl v] h
    | _, _ => False
  | .return_ => match st with
    | [] => Q [] h
    | _ => False
  | _ => False
/-- from place i on the program comes to an end with Q -/
def jm_WP (X : jm_X) (C : jm_C) (B : Nat × Nat) (P : List jm_E) (Q : jm_Q) (i : Nat) (L : jm_L) (st : List jm_V) (h : jm_H) : Prop :=
  ∀ K : jm_K, (∀ (i : Nat) (e : jm_E) (L : jm_L) (st : List jm_V) (h : jm_H), P[i]? = some e → jm_sem X C B Q K e i L st h → K i L st h) → K i L st h
