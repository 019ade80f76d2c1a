/-! a program of the small machine beside a method's bytes: what is looked at once, by counting -/
def jm_go (P : List jm_E) (t pc : Nat) : Bool := match P[t]? with
  | some e => e.1 == pc
  | none => false
theorem jm_go_spec {P : List jm_E} {t pc : Nat} (h : jm_go P t pc = true) : ∃ e, P[t]? = some e ∧ e.1 = pc := by
  unfold jm_go at h
  split at h
  · rename_i e he
    exact ⟨e, he, by simpa using h⟩
  · cases h
def jm_jmp (P : List jm_E) (pc : Nat) (off t : Int) : Bool := match P[t.toNat]? with
  | some e => decide ((pc : Int) + off = (e.1 : Int))
  | none => false
theorem jm_jmp_spec {P : List jm_E} {pc : Nat} {off t : Int} (h : jm_jmp P pc off t = true) : ∃ e, P[t.toNat]? = some e ∧ (pc : Int) + off = (e.1 : Int) := by
  unfold jm_jmp at h
  split at h
  · rename_i e he
    exact ⟨e, he, of_decide_eq_true h⟩
  · cases h
def jm_c (P : List jm_E) (i : Nat) (e : jm_E) (k : Nat) : Bool := e.2.2.1 == k && jm_go P (i + 1) (e.1 + k)
def jm_ckt (P : List jm_E) (pc : Nat) (d : Int) : Int → List Int → List Int → Bool
  | _, [], [t] => jm_jmp P pc d t
  | v, o :: os, w :: t :: r => w == v && (jm_jmp P pc o t && jm_ckt P pc d (v + 1) os r)
  | _, _, _ => false
def jm_ckl (P : List jm_E) (pc : Nat) (d : Int) : List (Int × Int) → List Int → Bool
  | [], [t] => jm_jmp P pc d t
  | q :: os, w :: t :: r => w == q.1 && (jm_jmp P pc q.2 t && jm_ckl P pc d os r)
  | _, _ => false
theorem jm_ckt_spec {P : List jm_E} {pc : Nat} {d a : Int} {K : Nat → Prop} : ∀ (v : Int) (os r : List Int), jm_ckt P pc d v os r = true → jm_sw K a r →
    (∃ (j : Nat) (off t : Int), a = v + j ∧ os[j]? = some off ∧ jm_jmp P pc off t = true ∧ K t.toNat) ∨ ((a < v ∨ v + os.length ≤ a) ∧ ∃ t, jm_jmp P pc d t = true ∧ K t.toNat)
  | v, [], [t], h, hs => by
    refine Or.inr ⟨?_, t, h, hs⟩
    simp only [List.length_nil]
    omega
  | v, o :: os, w :: t :: r, h, hs => by
    simp only [jm_ckt, Bool.and_eq_true, beq_iff_eq] at h
    obtain ⟨rfl, h1, h2⟩ := h
    by_cases ha : a = w
    · exact Or.inl ⟨0, o, t, by omega, rfl, h1, hs.1 ha⟩
    · rcases jm_ckt_spec (w + 1) os r h2 (hs.2 ha) with ⟨j, off, t', e1, e2, e3⟩ | ⟨e1, e2⟩
      · exact Or.inl ⟨j + 1, off, t', by omega, by simpa using e2, e3⟩
      · refine Or.inr ⟨?_, e2⟩
        simp only [List.length_cons]
        omega
  | v, [], [], h, hs => hs.elim
  | v, [], _ :: _ :: _, h, hs => by simp [jm_ckt] at h
  | v, _ :: _, [], h, hs => hs.elim
  | v, _ :: _, [_], h, hs => by simp [jm_ckt] at h
theorem jm_ckl_spec {P : List jm_E} {pc : Nat} {d a : Int} {K : Nat → Prop} : ∀ (os : List (Int × Int)) (r : List Int), jm_ckl P pc d os r = true → jm_sw K a r →
    ∃ t, jm_jmp P pc (Op.lookupswitch.offset os d a) t = true ∧ K t.toNat
  | [], [t], h, hs => ⟨t, h, hs⟩
  | q :: os, w :: t :: r, h, hs => by
    simp only [jm_ckl, Bool.and_eq_true, beq_iff_eq] at h
    obtain ⟨rfl, h1, h2⟩ := h
    obtain ⟨q1, q2⟩ := q
    rw [Op.lookupswitch.offset_cons]
    by_cases ha : a = q1
    · rw [if_pos (by first | exact ha.symm | exact ha)]
      exact ⟨t, h1, hs.1 ha⟩
    · rw [if_neg (by first | exact fun z => ha z.symm | exact ha)]
      exact jm_ckl_spec os r h2 (hs.2 ha)
  | [], [], h, hs => hs.elim
  | [], _ :: _ :: _, h, hs => by simp [jm_ckl] at h
  | _ :: _, [], h, hs => hs.elim
  | _ :: _, [_], h, hs => by simp [jm_ckl] at h
def jm_chk (n : Nat) (P : List jm_E) (i : Nat) (e : jm_E) : Bool :=
  match e.2.1 with
  | .iconst v => jm_c P i e 1 && decide (jm_r v)
  | .bipush v => jm_c P i e 2 && (decide (jm_r v) && decide ((Int8.ofInt v).toInt32 = Int32.ofInt v))
  | .sipush v => jm_c P i e 3 && (decide (jm_r v) && decide ((Int16.ofInt v).toInt32 = Int32.ofInt v))
  | .ldc x => jm_c P i e 2 && (match e.2.2.2 with
    | [v] => decide (jm_r v) && jm_kl.any (fun q => q.1 == jm_ow n && (q.2.1 == x && q.2.2.1 == v))
    | _ => false)
  | .ldc_w x => jm_c P i e 3 && (match e.2.2.2 with
    | [v] => decide (jm_r v) && jm_kl.any (fun q => q.1 == jm_ow n && (q.2.1 == x && q.2.2.1 == v))
    | _ => false)
  | .ldc2_w x => jm_c P i e 3 && (match e.2.2.2 with
    | [v] => decide (jm_rl v) && jm_jl.any (fun q => q.1 == jm_ow n && (q.2.1 == x && q.2.2.1 == v))
    | _ => false)
  | .lconst _ => jm_c P i e 1
  | .iload _ => jm_c P i e 2
  | .iload_n _ => jm_c P i e 1
  | .lload _ => jm_c P i e 2
  | .lload_n _ => jm_c P i e 1
  | .aload _ => jm_c P i e 2
  | .aload_n _ => jm_c P i e 1
  | .istore k => jm_c P i e 2 && decide (k < jm_ma n)
  | .istore_n k => jm_c P i e 1 && decide (k.val < jm_ma n)
  | .lstore k => jm_c P i e 2 && decide (k + 1 < jm_ma n)
  | .lstore_n k => jm_c P i e 1 && decide (k.val + 1 < jm_ma n)
  | .astore k => jm_c P i e 2 && decide (k < jm_ma n)
  | .astore_n k => jm_c P i e 1 && decide (k.val < jm_ma n)
  | .iinc k _ => jm_c P i e 3 && decide (k < jm_ma n)
  | .iadd => jm_c P i e 1
  | .isub => jm_c P i e 1
  | .imul => jm_c P i e 1
  | .idiv => jm_c P i e 1
  | .irem => jm_c P i e 1
  | .ineg => jm_c P i e 1
  | .iand => jm_c P i e 1
  | .ior => jm_c P i e 1
  | .ixor => jm_c P i e 1
  | .ishl => jm_c P i e 1
  | .ishr => jm_c P i e 1
  | .iushr => jm_c P i e 1
  | .i2l => jm_c P i e 1
  | .l2i => jm_c P i e 1
  | .i2b => jm_c P i e 1
  | .i2s => jm_c P i e 1
  | .ladd => jm_c P i e 1
  | .lmul => jm_c P i e 1
  | .lrem => jm_c P i e 1
  | .lcmp => jm_c P i e 1
  | .dup => jm_c P i e 1
  | .dup2 => jm_c P i e 1
  | .pop => jm_c P i e 1
  | .ifCond _ off => jm_c P i e 3 && (match e.2.2.2 with
    | [t] => jm_jmp P e.1 off t
    | _ => false)
  | .if_icmp _ off => jm_c P i e 3 && (match e.2.2.2 with
    | [t] => jm_jmp P e.1 off t
    | _ => false)
  | .goto off => e.2.2.1 == 3 && (match e.2.2.2 with
    | [t] => jm_jmp P e.1 off t
    | _ => false)
  | .tableswitch d lo hi offs => decide (hi + 1 = lo + offs.toList.length) && jm_ckt P e.1 d lo offs.toList e.2.2.2
  | .lookupswitch d ps => (ps.toList.zip (ps.toList.drop 1)).all (fun (a, next) => a.1 < next.1) && jm_ckl P e.1 d ps.toList e.2.2.2
  | .getfield x => jm_c P i e 3 && (match e.2.2.2 with
    | [c, k, t] => decide (0 ≤ k ∧ t = (jm_fty c.toNat k.toNat : Int)) && jm_fl.any (fun q => q.1 == jm_ow n && (q.2.1 == x && (q.2.2.1 == c.toNat && q.2.2.2.1 == k.toNat)))
    | _ => false)
  | .putfield x => jm_c P i e 3 && (match e.2.2.2 with
    | [c, k, t] => decide (0 ≤ k ∧ t = (jm_fty c.toNat k.toNat : Int)) && (jm_fl.any (fun q => q.1 == jm_ow n && (q.2.1 == x && (q.2.2.1 == c.toNat && q.2.2.2.1 == k.toNat))) && ((jm_T c.toNat k.toNat).2.2.2 == false || (jm_ki n == 2 && jm_ow n == c.toNat)))
    | _ => false)
  | .getstatic x => jm_c P i e 3 && (match e.2.2.2 with
    | [k] => decide (k ≤ -3) && jm_sl.any (fun q => q.1 == jm_ow n && (q.2.1 == x && q.2.2.1 == (-3 - k).toNat))
    | _ => false)
  | .iaload => jm_c P i e 1
  | .baload => jm_c P i e 1
  | .aaload => jm_c P i e 1
  | .iastore => jm_c P i e 1
  | .bastore => jm_c P i e 1
  | .aastore => jm_c P i e 1
  | .arraylength => jm_c P i e 1
  | .newarray _ => jm_c P i e 2
  | .anewarray x => jm_c P i e 3 && (match e.2.2.2 with
    | [k] => jm_cl.any (fun q => q.1 == jm_ow n && (q.2.1 == x && ((k == 2 && q.2.2.1 == 5) || ((k == 3 && q.2.2.1 == 1) || (k == 4 && q.2.2.1 == 4)))))
    | _ => false)
  | .new x => jm_c P i e 3 && (match e.2.2.2 with
    | [c, w] => decide (w = (jm_N c.toNat : Int) ∧ c.toNat < 11) && jm_cl.any (fun q => q.1 == jm_ow n && (q.2.1 == x && q.2.2.1 == c.toNat))
    | _ => false)
  | .invokevirtual x => jm_c P i e 3 && (match e.2.2.2 with
    | [f, a, c] => decide (f.toNat < 224 ∧ jm_ki f.toNat = 0 ∧ jm_pa f.toNat = a.toNat ∧ c.toNat = jm_ow f.toNat ∧ c.toNat < 11) && jm_ml.any (fun q => q.1 == jm_ow n && (q.2.1 == x && q.2.2.1 == f.toNat))
    | _ => false)
  | .invokestatic x => jm_c P i e 3 && (match e.2.2.2 with
    | [f, a] => decide (f.toNat < 224 ∧ jm_ki f.toNat = 1 ∧ jm_pa f.toNat = a.toNat) && jm_ml.any (fun q => q.1 == jm_ow n && (q.2.1 == x && q.2.2.1 == f.toNat))
    | [_] => jm_xl.any (fun q => q.1 == jm_ow n && q.2.1 == x)
    | [] => jm_yl.any (fun q => q.1 == jm_ow n && q.2.1 == x)
    | _ => false)
  | .invokespecial x => jm_c P i e 3 && (match e.2.2.2 with
    | [f, a, b] => decide (f.toNat < 224 ∧ jm_ki f.toNat = 2 ∧ jm_pa f.toNat = 0 ∧ jm_mc f.toNat = a.toNat ∧ jm_ms f.toNat = b.toNat) && (jm_ml.any (fun q => q.1 == jm_ow n && (q.2.1 == x && q.2.2.1 == f.toNat)) || jm_nl.any (fun q => q.1 == jm_ow n && (q.2.1 == x && q.2.2.1 == f.toNat)))
    | [] => jm_ol.any (fun q => q.1 == jm_ow n && q.2.1 == x)
    | _ => false)
  | .ireturn => e.2.2.1 == 1 && (match e.2.2.2 with
    | [t] => decide ((t = 0 ∧ jm_re n = some .int) ∨ (t = 1 ∧ jm_re n = some .boolean))
    | _ => false)
  | .return_ => e.2.2.1 == 1 && decide (jm_re n = none)
  | _ => false
def jm_ckD (n : Nat) (P : List jm_E) : Bool := P.all (fun e => decide (decode (jm_co n) e.1 = .ok (e.2.1, e.2.2.1)))
def jm_ckP (n : Nat) (P : List jm_E) : Bool := P.zipIdx.all (fun q => jm_chk n P q.2 q.1)
theorem jm_ckD_spec {n : Nat} {P : List jm_E} (h : jm_ckD n P = true) {i : Nat} {e : jm_E} (he : P[i]? = some e) : decode (jm_co n) e.1 = .ok (e.2.1, e.2.2.1) := of_decide_eq_true (List.all_eq_true.mp h e (List.mem_of_getElem? he))
theorem jm_ckP_spec {n : Nat} {P : List jm_E} (h : jm_ckP n P = true) {i : Nat} {e : jm_E} (he : P[i]? = some e) : jm_chk n P i e = true := by
  have h1 := List.all_eq_true.mp h (e, i) (List.mem_iff_getElem?.mpr ⟨i, by simp [he]⟩)
  exact h1
theorem jm_c_spec {P : List jm_E} {i k : Nat} {e : jm_E} (h : jm_c P i e k = true) : e.2.2.1 = k ∧ ∃ e1, P[i + 1]? = some e1 ∧ e1.1 = e.1 + k := by
  simp only [jm_c, Bool.and_eq_true, beq_iff_eq] at h
  exact ⟨h.1, jm_go_spec h.2⟩
/-- the cells and the numbers of a run so far -/
def jm_Sim (D : va_G) (aC : Nat → ClassId) (ba : Nat) (ex : Nat → Nat) (s : State) (B : Nat × Nat) (n0 t0 : Nat) (h : jm_H) (H : Heap) (locs : List Loc) (cells slots : Nat) : Prop :=
  va_P D vwCl (jm_ws aC ba ex h) H ∧ (∀ i j, jm_r (h.2 i j)) ∧ va_S (fun q => ba ≤ q) s.heap H locs ∧ cells + n0 = h.1.length ∧ slots + t0 = jm_tot h.1 ∧ h.1.length ≤ B.1 ∧ jm_tot h.1 ≤ B.2
section JMC
variable (p : Program) (l : Launch) (e : Env) (R : Room) (s : State) (m : MethodId) (args : Array Value) (below : List Frame) (meth : Method) (c : Code) (D : va_G) (aC : Nat → ClassId) (ba : Nat) (ex : Nat → Nat)
/-- all that stays while a method runs -/
def jm_Cx (X : jm_X) (n d : Nat) (B : Nat × Nat) (n0 t0 : Nat) : Prop :=
  p.tables.exec = Jvm.exec ∧ c.code = jm_co n ∧ c.maxLocals = jm_ma n ∧ s.vm.findClass (jm_CN (jm_ow n)) = some m.cls ∧ jm_Env D aC s ∧ jm_Ext ba ex X s s.heap ∧ s.heap.size = ba + n0 ∧ (jm_ki n = 2 → meth.name = "<init>") ∧ d + 1 ≤ R.frames ∧ 64 * (d + 1) ≤ R.locals ∧ B.1 ≤ n0 + R.cells ∧ B.2 ≤ t0 + R.slots
def jm_It (P : List jm_E) (n : Nat) (B : Nat × Nat) (n0 t0 : Nat) (Qz : State → Prop) : jm_K := fun i L st h =>
  ∀ e' : jm_E, P[i]? = some e' → ∀ (H : Heap) (locs : List Loc) (cells slots : Nat) (ls : Array Slot), jm_Sim D aC ba ex s B n0 t0 h H locs cells slots → jm_LR ba ex ls (jm_ma n) L → (∀ v ∈ st, jm_ok v) →
    W p l e R s m args below meth c H locs cells slots Qz (F0 m e'.1 ls (st.map (jm_rv ba ex)))
end JMC
