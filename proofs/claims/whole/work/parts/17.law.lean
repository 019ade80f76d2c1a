-- ===== end of PART A; then your names; then what follows =====
/-! THE CLAIM OUT OF ONE WALK OF THE LAW'S BODY. Your part is whole_start (and what it stands on); all else here is the same for every law, but numbers. -/
def R_law : String := "MatNationsLaw"
def lw_P (b : Addr) (xs : List Int32) (args : Array Value) (s : State) : Prop := args = #[.ref b] ∧ s.IntsAt b xs ∧ xs.length ≤ 384 ∧ (Jvm.Cond.and given_1 narrow_1).before args s = true
def lw_Q (_ : Array Value) (s : State) (o : Outcome) (t : State) : Prop := o = .returned (some (.int 1)) ∧ Framed s o t [] 600000 7302250
def lw_Z (below : List Frame) (a : Array Value) (s : State) : State → Prop := fun t => ∃ o, t.status = .running ∧ Ended t below o ∧ lw_Q a s o t
/-- the law's own end, with 1 on the stack, nothing written that was there before, its room as the claim has it -/
theorem lw_ret {p : Program} {l : Launch} {e : Env} {s : State} {m : MethodId} {below : List Frame} {meth : Method} {c : Code} {b : Nat} (hx : p.tables.exec = Jvm.exec) (hb : c.code = code) (hr : meth.sig.returnType = ret) (hlocks : meth.locks = false) {pc : Nat} {H : Heap} {ls : Array Slot} (hdg : decode code pc = .ok (.ireturn, 1)) : W p l e room_1 s m #[Value.ref b] below meth c H [] 600000 7302250 (lw_Z below #[Value.ref b] s) (F0 m pc ls [.int 1]) := by
  intro T hT X
  obtain ⟨fs, hret, hrun, hended, hW, hframe⟩ := X.leave (v := some (.int 1)) (hlocks := hlocks) (fun h => by rw [hr] at h; cases h)
  have hmeth' : T.vm.method? m = some meth := X.method'
  refine ⟨T.setFrames fs, ?_, .returned (some (.int 1)), hrun, hended, rfl, ⟨_, rfl⟩, hW, hframe⟩
  jvm_step X.here [X.here.top, hx, hb, hdg, hmeth', hr, ret, narrow_b1]
  (try refine ⟨rfl, ?_⟩); (try refine ⟨rfl, ?_⟩)
  first | (intro acts; rw [hret _ acts rfl rfl rfl]) | rw [hret _ _ rfl rfl rfl]
  exact Steps.refl _
/-- what holds at the law's entry: the machine, the code, the tables' words (any of lw_tbl by 'hts w (by decide +kernel)'), the script of L ints xs at the cell b, what the Statement gives of the start (any of its parts by flat_of_before) -/
def lw_At (p : Program) (s : State) (m : MethodId) (meth : Method) (c : Code) (b L : Nat) (xs : Nat → Int32) : Prop :=
  p.tables.exec = Jvm.exec ∧ c.code = code ∧ meth.sig.returnType = ret ∧ c.maxLocals = 4 ∧ s.vm.findClass R_law = some m.cls ∧ (∀ w ∈ lw_tbl, w.before #[Value.ref b] s = true) ∧ va_X b L xs s s.heap ∧ b < s.heap.size ∧ meth.locks = false ∧ (Jvm.Cond.and given_1 narrow_1).before #[Value.ref b] s = true

def jm_sa : List (List Int) := [[-1, 0, 1, 1, 0, 4], [1, 0, 1, 0], [5, 29, 9, 5], [10, 11, 12, 11, 13, 14], [20, 21, 24, 22, 23, 23]]
/-- the arrays of the start: 0 the script, then the tables of the classes -/
def jm_xt (L : Nat) (f : Int → Int) : jm_X := fun k => match k with
  | 0 => (L, f)
  | k + 1 => ((jm_sa.getD k []).length, fun j => (jm_sa.getD k []).getD j.toNat 0)
theorem jm_sa_r (k : Nat) (j : Int) : jm_r ((jm_sa.getD k []).getD j.toNat 0) := by
  have h : ∀ l ∈ jm_sa, ∀ z ∈ l, jm_r z := by decide
  rw [List.getD_eq_getElem?_getD, List.getD_eq_getElem?_getD]
  cases hk : jm_sa[k]? with
  | none => simp; exact jm_r0
  | some l =>
    rw [Option.getD_some]
    cases hj : l[j.toNat]? with
    | none => simp; exact jm_r0
    | some z => exact h l (List.mem_of_getElem? hk) z (List.mem_of_getElem? hj)
theorem jm_arrT {args : Array Value} {s : State} {ty : FieldType} (h : (Cond.arrayClass ty).before args s = true) : ∃ cA, ArrOfT s cA ty ∧ s.vm.findClass ("[" ++ ty.toString) = some cA := by
  obtain ⟨cA, k, comp, h1, h2, h3⟩ := Cond.arrayClass_spec h
  exact ⟨cA, fun _ _ => ⟨(fun k h => (by cases h)), k, h2, comp, h3⟩, h1⟩
theorem jm_arrO {s : State} {C : String} (h : va_AO C s) : ∃ cA, ArrOfT s cA (.object C) ∧ va_RA s cA (.object C) := by
  obtain ⟨comp, c, k, h1, h2, h3, h4, h5⟩ := Cond.arrayOver_spec h
  exact ⟨c, fun _ _ => ⟨(fun k h => (by cases h)), k, h3, comp, h4⟩, k, comp, h3, h4, h1, h5⟩
theorem jm_w_oM : Cond.arrayOver (.object "MatNations$Mat") ∈ lw_tbl := List.mem_of_getElem? (i := 135) (by decide +kernel)
theorem jm_w_oC : Cond.arrayOver (.object "MatNations$Comer") ∈ lw_tbl := List.mem_of_getElem? (i := 137) (by decide +kernel)
theorem jm_w_oH : Cond.arrayOver (.object "MatNations$House") ∈ lw_tbl := List.mem_of_getElem? (i := 239) (by decide +kernel)
theorem jm_w_nl : ∀ q ∈ jm_nl, jm_nlw q ∈ lw_tbl := fun q hq => jm_hw_in (List.all_eq_true.mp jm_nl_ok q hq) _ List.mem_cons_self
theorem jm_w_s0 : Cond.laysStatic "MatNations$Comer" "PARENTS" "[I" ∈ lw_tbl := List.mem_of_getElem? (i := 835) (by decide +kernel)
theorem jm_w_s1 : Cond.laysStatic "MatNations$Foretold" "FIRST_TRIED" "[I" ∈ lw_tbl := List.mem_of_getElem? (i := 774) (by decide +kernel)
theorem jm_w_s2 : Cond.laysStatic "MatNations$Foretold" "LAST_TRIED" "[I" ∈ lw_tbl := List.mem_of_getElem? (i := 776) (by decide +kernel)
theorem jm_w_s3 : Cond.laysStatic "MatNations$Asks" "SIZE_BODIES" "[I" ∈ lw_tbl := List.mem_of_getElem? (i := 848) (by decide +kernel)
theorem jm_w_s4 : Cond.laysStatic "MatNations$Asks" "MARK_BODIES" "[I" ∈ lw_tbl := List.mem_of_getElem? (i := 850) (by decide +kernel)
theorem jm_w_iComer : Cond.initialized "MatNations$Comer" ∈ lw_tbl := List.mem_of_getElem? (i := 75) (by decide +kernel)
theorem jm_w_iForetold : Cond.initialized "MatNations$Foretold" ∈ lw_tbl := List.mem_of_getElem? (i := 78) (by decide +kernel)
theorem jm_w_iAsks : Cond.initialized "MatNations$Asks" ∈ lw_tbl := List.mem_of_getElem? (i := 79) (by decide +kernel)
set_option maxRecDepth 100000 in
set_option maxHeartbeats 4000000 in
theorem jm_statics {args : Array Value} {s : State} (hts : ∀ w ∈ lw_tbl, w.before args s = true) (hgv : (Jvm.Cond.and given_1 narrow_1).before args s = true) (L : Nat) (f : Int → Int) :
    ∃ t : Nat → Nat, ∀ k q, jm_sf[k]? = some q → va_T .int (t k) (jm_xt L f (k + 1)).1 (fun j => .int (Int32.ofInt ((jm_xt L f (k + 1)).2 j))) (fun q => s.heap.size ≤ q) s s.heap ∧ va_Z q.1 q.2.1 q.2.2 (.ref (t k)) (fun q => s.heap.size ≤ q) s s.heap := by
  have hs := flat_of_before _ hgv
  have hA : ∀ a : Nat, a < s.heap.size → ¬ (fun q => s.heap.size ≤ q) a := fun a h => Nat.not_le.mpr h
  obtain ⟨t0, ht0, hT0⟩ := va_Tof (tm := (.static "MatNations$Comer" "PARENTS" "[I")) (ty := .int) (N := 6) (f := fun j => .int (Int32.ofInt ((jm_xt L f 1).2 j))) (A := fun q => s.heap.size ≤ q) (by decide) (hs (.arrayOf (.static "MatNations$Comer" "PARENTS" "[I") .int) (by decide +kernel)) (va_eqt (hs (.eq (.length (.static "MatNations$Comer" "PARENTS" "[I")) (.int 6)) (by decide +kernel))) (fun j hj => by
    match j, hj with
    | 0, _ => exact va_eqt (hs (.eq (.elem (.static "MatNations$Comer" "PARENTS" "[I") (.int 0)) (.int (-1))) (by decide +kernel))
    | 1, _ => exact va_eqt (hs (.eq (.elem (.static "MatNations$Comer" "PARENTS" "[I") (.int 1)) (.int (0))) (by decide +kernel))
    | 2, _ => exact va_eqt (hs (.eq (.elem (.static "MatNations$Comer" "PARENTS" "[I") (.int 2)) (.int (1))) (by decide +kernel))
    | 3, _ => exact va_eqt (hs (.eq (.elem (.static "MatNations$Comer" "PARENTS" "[I") (.int 3)) (.int (1))) (by decide +kernel))
    | 4, _ => exact va_eqt (hs (.eq (.elem (.static "MatNations$Comer" "PARENTS" "[I") (.int 4)) (.int (0))) (by decide +kernel))
    | 5, _ => exact va_eqt (hs (.eq (.elem (.static "MatNations$Comer" "PARENTS" "[I") (.int 5)) (.int (4))) (by decide +kernel))
    | j + 6, hj => exact absurd hj (by omega)) hA
  have hZ0 := va_Zof (hts _ jm_w_s0) (hts _ jm_w_iComer) ht0 hA
  obtain ⟨t1, ht1, hT1⟩ := va_Tof (tm := (.static "MatNations$Foretold" "FIRST_TRIED" "[I")) (ty := .int) (N := 4) (f := fun j => .int (Int32.ofInt ((jm_xt L f 2).2 j))) (A := fun q => s.heap.size ≤ q) (by decide) (hs (.arrayOf (.static "MatNations$Foretold" "FIRST_TRIED" "[I") .int) (by decide +kernel)) (va_eqt (hs (.eq (.length (.static "MatNations$Foretold" "FIRST_TRIED" "[I")) (.int 4)) (by decide +kernel))) (fun j hj => by
    match j, hj with
    | 0, _ => exact va_eqt (hs (.eq (.elem (.static "MatNations$Foretold" "FIRST_TRIED" "[I") (.int 0)) (.int (1))) (by decide +kernel))
    | 1, _ => exact va_eqt (hs (.eq (.elem (.static "MatNations$Foretold" "FIRST_TRIED" "[I") (.int 1)) (.int (0))) (by decide +kernel))
    | 2, _ => exact va_eqt (hs (.eq (.elem (.static "MatNations$Foretold" "FIRST_TRIED" "[I") (.int 2)) (.int (1))) (by decide +kernel))
    | 3, _ => exact va_eqt (hs (.eq (.elem (.static "MatNations$Foretold" "FIRST_TRIED" "[I") (.int 3)) (.int (0))) (by decide +kernel))
    | j + 4, hj => exact absurd hj (by omega)) hA
  have hZ1 := va_Zof (hts _ jm_w_s1) (hts _ jm_w_iForetold) ht1 hA
  obtain ⟨t2, ht2, hT2⟩ := va_Tof (tm := (.static "MatNations$Foretold" "LAST_TRIED" "[I")) (ty := .int) (N := 4) (f := fun j => .int (Int32.ofInt ((jm_xt L f 3).2 j))) (A := fun q => s.heap.size ≤ q) (by decide) (hs (.arrayOf (.static "MatNations$Foretold" "LAST_TRIED" "[I") .int) (by decide +kernel)) (va_eqt (hs (.eq (.length (.static "MatNations$Foretold" "LAST_TRIED" "[I")) (.int 4)) (by decide +kernel))) (fun j hj => by
    match j, hj with
    | 0, _ => exact va_eqt (hs (.eq (.elem (.static "MatNations$Foretold" "LAST_TRIED" "[I") (.int 0)) (.int (5))) (by decide +kernel))
    | 1, _ => exact va_eqt (hs (.eq (.elem (.static "MatNations$Foretold" "LAST_TRIED" "[I") (.int 1)) (.int (29))) (by decide +kernel))
    | 2, _ => exact va_eqt (hs (.eq (.elem (.static "MatNations$Foretold" "LAST_TRIED" "[I") (.int 2)) (.int (9))) (by decide +kernel))
    | 3, _ => exact va_eqt (hs (.eq (.elem (.static "MatNations$Foretold" "LAST_TRIED" "[I") (.int 3)) (.int (5))) (by decide +kernel))
    | j + 4, hj => exact absurd hj (by omega)) hA
  have hZ2 := va_Zof (hts _ jm_w_s2) (hts _ jm_w_iForetold) ht2 hA
  obtain ⟨t3, ht3, hT3⟩ := va_Tof (tm := (.static "MatNations$Asks" "SIZE_BODIES" "[I")) (ty := .int) (N := 6) (f := fun j => .int (Int32.ofInt ((jm_xt L f 4).2 j))) (A := fun q => s.heap.size ≤ q) (by decide) (hs (.arrayOf (.static "MatNations$Asks" "SIZE_BODIES" "[I") .int) (by decide +kernel)) (va_eqt (hs (.eq (.length (.static "MatNations$Asks" "SIZE_BODIES" "[I")) (.int 6)) (by decide +kernel))) (fun j hj => by
    match j, hj with
    | 0, _ => exact va_eqt (hs (.eq (.elem (.static "MatNations$Asks" "SIZE_BODIES" "[I") (.int 0)) (.int (10))) (by decide +kernel))
    | 1, _ => exact va_eqt (hs (.eq (.elem (.static "MatNations$Asks" "SIZE_BODIES" "[I") (.int 1)) (.int (11))) (by decide +kernel))
    | 2, _ => exact va_eqt (hs (.eq (.elem (.static "MatNations$Asks" "SIZE_BODIES" "[I") (.int 2)) (.int (12))) (by decide +kernel))
    | 3, _ => exact va_eqt (hs (.eq (.elem (.static "MatNations$Asks" "SIZE_BODIES" "[I") (.int 3)) (.int (11))) (by decide +kernel))
    | 4, _ => exact va_eqt (hs (.eq (.elem (.static "MatNations$Asks" "SIZE_BODIES" "[I") (.int 4)) (.int (13))) (by decide +kernel))
    | 5, _ => exact va_eqt (hs (.eq (.elem (.static "MatNations$Asks" "SIZE_BODIES" "[I") (.int 5)) (.int (14))) (by decide +kernel))
    | j + 6, hj => exact absurd hj (by omega)) hA
  have hZ3 := va_Zof (hts _ jm_w_s3) (hts _ jm_w_iAsks) ht3 hA
  obtain ⟨t4, ht4, hT4⟩ := va_Tof (tm := (.static "MatNations$Asks" "MARK_BODIES" "[I")) (ty := .int) (N := 6) (f := fun j => .int (Int32.ofInt ((jm_xt L f 5).2 j))) (A := fun q => s.heap.size ≤ q) (by decide) (hs (.arrayOf (.static "MatNations$Asks" "MARK_BODIES" "[I") .int) (by decide +kernel)) (va_eqt (hs (.eq (.length (.static "MatNations$Asks" "MARK_BODIES" "[I")) (.int 6)) (by decide +kernel))) (fun j hj => by
    match j, hj with
    | 0, _ => exact va_eqt (hs (.eq (.elem (.static "MatNations$Asks" "MARK_BODIES" "[I") (.int 0)) (.int (20))) (by decide +kernel))
    | 1, _ => exact va_eqt (hs (.eq (.elem (.static "MatNations$Asks" "MARK_BODIES" "[I") (.int 1)) (.int (21))) (by decide +kernel))
    | 2, _ => exact va_eqt (hs (.eq (.elem (.static "MatNations$Asks" "MARK_BODIES" "[I") (.int 2)) (.int (24))) (by decide +kernel))
    | 3, _ => exact va_eqt (hs (.eq (.elem (.static "MatNations$Asks" "MARK_BODIES" "[I") (.int 3)) (.int (22))) (by decide +kernel))
    | 4, _ => exact va_eqt (hs (.eq (.elem (.static "MatNations$Asks" "MARK_BODIES" "[I") (.int 4)) (.int (23))) (by decide +kernel))
    | 5, _ => exact va_eqt (hs (.eq (.elem (.static "MatNations$Asks" "MARK_BODIES" "[I") (.int 5)) (.int (23))) (by decide +kernel))
    | j + 6, hj => exact absurd hj (by omega)) hA
  have hZ4 := va_Zof (hts _ jm_w_s4) (hts _ jm_w_iAsks) ht4 hA
  refine ⟨fun k => match k with | 0 => t0 | 1 => t1 | 2 => t2 | 3 => t3 | _ => t4, fun k q hq => ?_⟩
  match k, hq with
  | 0, hq => cases hq; exact ⟨hT0, hZ0⟩
  | 1, hq => cases hq; exact ⟨hT1, hZ1⟩
  | 2, hq => cases hq; exact ⟨hT2, hZ2⟩
  | 3, hq => cases hq; exact ⟨hT3, hZ3⟩
  | 4, hq => cases hq; exact ⟨hT4, hZ4⟩
  | k + 5, hq => exact absurd hq (by simp [jm_sf])
set_option maxRecDepth 100000 in
set_option maxHeartbeats 4000000 in
/-- THE LAW out of a run of the small machine -/
theorem jm_whole {p : Program} {e : Env} {s : State} {m : MethodId} {below : List Frame} {meth : Method} {c : Code} (l : Launch) {b L : Nat} {xs : Nat → Int32} (hL : L ≤ 384) (C0 : lw_At p s m meth c b L xs)
    (hwp : ∀ f : Int → Int, (∀ j, jm_r (f j)) → jm_WP (jm_xt L f) (jm_CW (jm_xt L f) jm_PP 200) (104, 4049) jm_p_L_law (fun v _ => v = [.inl 1]) 0 [some (.inr (.inr (-2))), none, none, none] [] ([], fun _ _ => 0)) :
    W p l e room_1 s m #[Value.ref b] below meth c s.heap [] 0 0 (lw_Z below #[Value.ref b] s) (entryFrame m ([Value.ref b] : List Value).toArray 4) := by
  obtain ⟨hx, hb, hr, hml, hown, hts, hX, hbl, hlocks, hgv⟩ := C0
  obtain ⟨tt, htt⟩ := jm_statics hts hgv L (fun j => (xs j.toNat).toInt)
  obtain ⟨c0, iS0, hKn0⟩ := u_known (C := RX0) (T := TX0) (N := 2) (n := 2) hts (fun w h => jm_hw_in jm_uw_0 w h) (hts (.instantiable RX0 2) (jm_hw_in jm_ui_0 _ List.mem_cons_self))
  obtain ⟨c1, iS1, hKn1⟩ := u_known (C := RX1) (T := TX1) (N := 5) (n := 5) hts (fun w h => jm_hw_in jm_uw_1 w h) (hts (.instantiable RX1 5) (jm_hw_in jm_ui_1 _ List.mem_cons_self))
  obtain ⟨c2, iS2, hKn2⟩ := u_known (C := RX2) (T := TX2) (N := 6) (n := 6) hts (fun w h => jm_hw_in jm_uw_2 w h) (hts (.instantiable RX2 6) (jm_hw_in jm_ui_2 _ List.mem_cons_self))
  obtain ⟨c3, iS3, hKn3⟩ := u_known (C := RX3) (T := TX3) (N := 3) (n := 3) hts (fun w h => jm_hw_in jm_uw_3 w h) (hts (.instantiable RX3 3) (jm_hw_in jm_ui_3 _ List.mem_cons_self))
  obtain ⟨c4, iS4, hKn4⟩ := u_known (C := RX4) (T := TX4) (N := 6) (n := 6) hts (fun w h => jm_hw_in jm_uw_4 w h) (hts (.instantiable RX4 6) (jm_hw_in jm_ui_4 _ List.mem_cons_self))
  obtain ⟨c5, iS5, hKn5⟩ := u_known (C := RX5) (T := TX5) (N := 2) (n := 2) hts (fun w h => jm_hw_in jm_uw_5 w h) (hts (.instantiable RX5 2) (jm_hw_in jm_ui_5 _ List.mem_cons_self))
  obtain ⟨c6, iS6, hKn6⟩ := u_known (C := RX6) (T := TX6) (N := 4) (n := 4) hts (fun w h => jm_hw_in jm_uw_6 w h) (hts (.instantiable RX6 4) (jm_hw_in jm_ui_6 _ List.mem_cons_self))
  obtain ⟨c7, iS7, hKn7⟩ := u_known (C := RX7) (T := TX7) (N := 3) (n := 3) hts (fun w h => jm_hw_in jm_uw_7 w h) (hts (.instantiable RX7 3) (jm_hw_in jm_ui_7 _ List.mem_cons_self))
  obtain ⟨c8, iS8, hKn8⟩ := u_known (C := RX8) (T := TX8) (N := 3) (n := 3) hts (fun w h => jm_hw_in jm_uw_8 w h) (hts (.instantiable RX8 3) (jm_hw_in jm_ui_8 _ List.mem_cons_self))
  obtain ⟨c9, iS9, hKn9⟩ := u_known (C := RX9) (T := TX9) (N := 12) (n := 12) hts (fun w h => jm_hw_in jm_uw_9 w h) (hts (.instantiable RX9 12) (jm_hw_in jm_ui_9 _ List.mem_cons_self))
  obtain ⟨c10, iS10, hKn10⟩ := u_known (C := RX10) (T := TX10) (N := 18) (n := 18) hts (fun w h => jm_hw_in jm_uw_10 w h) (hts (.instantiable RX10 18) (jm_hw_in jm_ui_10 _ List.mem_cons_self))
  obtain ⟨dC, dI, hKc⟩ : ∃ (dC : Nat → ClassId) (dI : Nat → Nat → Nat), ∀ (k : Nat) (q : vw_C), vwCl[k]? = some q → u_Kn s q.1 q.2.1 q.2.2 (dC k) (dI k) := by
    refine ⟨fun k => match k with | 0 => c0 | 1 => c1 | 2 => c2 | 3 => c3 | 4 => c4 | 5 => c5 | 6 => c6 | 7 => c7 | 8 => c8 | 9 => c9 | _ => c10, fun k => match k with | 0 => iS0 | 1 => iS1 | 2 => iS2 | 3 => iS3 | 4 => iS4 | 5 => iS5 | 6 => iS6 | 7 => iS7 | 8 => iS8 | 9 => iS9 | _ => iS10, ?_⟩
    intro k q hq
    match k, hq with
    | 0, hq => cases hq; exact hKn0
    | 1, hq => cases hq; exact hKn1
    | 2, hq => cases hq; exact hKn2
    | 3, hq => cases hq; exact hKn3
    | 4, hq => cases hq; exact hKn4
    | 5, hq => cases hq; exact hKn5
    | 6, hq => cases hq; exact hKn6
    | 7, hq => cases hq; exact hKn7
    | 8, hq => cases hq; exact hKn8
    | 9, hq => cases hq; exact hKn9
    | 10, hq => cases hq; exact hKn10
    | k + 11, hq => simp [vwCl] at hq
  obtain ⟨a0, hA0, hN0⟩ := jm_arrT (hts _ jm_w_ac)
  obtain ⟨a1, hA1, hN1⟩ := jm_arrT (hts _ jm_w_az)
  have hoM : va_AO "MatNations$Mat" s := va_AO.of (hts _ jm_w_oM)
  have hoC : va_AO "MatNations$Comer" s := va_AO.of (hts _ jm_w_oC)
  have hoH : va_AO "MatNations$House" s := va_AO.of (hts _ jm_w_oH)
  obtain ⟨a2, hA2, hN2⟩ := jm_arrO hoM
  obtain ⟨a3, hA3, hN3⟩ := jm_arrO hoC
  obtain ⟨a4, hA4, hN4⟩ := jm_arrO hoH
  obtain ⟨aC, rfl, rfl, rfl, rfl, rfl⟩ : ∃ aC : Nat → ClassId, aC 0 = a0 ∧ aC 1 = a1 ∧ aC 2 = a2 ∧ aC 3 = a3 ∧ aC 4 = a4 := ⟨fun k => match k with | 0 => a0 | 1 => a1 | 2 => a2 | 3 => a3 | _ => a4, rfl, rfl, rfl, rfl, rfl⟩
  have hK : va_K (dC, dI) vwCl (jm_tys aC) s := by
    refine ⟨hKc, fun k q h => ?_⟩
    match k, h with
    | 0, h => cases h; exact ⟨hA0, hN0⟩
    | 1, h => cases h; exact ⟨hA1, hN1⟩
    | 2, h => cases h; exact ⟨hA2, hN2⟩
    | 3, h => cases h; exact ⟨hA3, hN3⟩
    | 4, h => cases h; exact ⟨hA4, hN4⟩
    | k + 5, h => simp [jm_tys] at h
  have hE : jm_Env (dC, dI) aC s := ⟨fun w hw hg a => word_at (State.WarmedH.refl s) (good_of_word hg) (hts w hw), fun q hq => va_Nw.of rfl (hts _ (jm_w_nl q hq)), ⟨hoM, hoC, hoH⟩, hK⟩
  have hXt : jm_Ext s.heap.size (fun k => match k with | 0 => b | k + 1 => tt k) (jm_xt L (fun j => (xs j.toNat).toInt)) s s.heap := by
    refine ⟨fun k hk => ?_, fun k q hq => (htt k q hq).2⟩
    match k, hk with
    | 0, _ =>
      obtain ⟨scr, z1, z2, z3, z4, z5⟩ := hX
      refine ⟨⟨scr, z1, z2, z3, Nat.le_of_eq z4.symm, by rw [z4]; rfl, fun j hj => ?_, Nat.not_le.mpr hbl⟩, by show L < 2147483648; omega, fun j => jm_rI _⟩
      have h5 := z5 j hj
      rw [h5]
      show some (Value.int (xs j)) = some (.int (Int32.ofInt (xs ((j : Int)).toNat).toInt))
      rw [Int.toNat_natCast, Int32.ofInt_toInt]
    | k + 1, hk =>
      have hk5 : k < jm_sf.length := by show k < 5; omega
      have hlen : ∀ l ∈ jm_sa, l.length < 2147483648 := by decide
      refine ⟨(htt k _ (List.getElem?_eq_getElem hk5)).1, ?_, fun j => jm_sa_r k j⟩
      show (jm_sa.getD k []).length < 2147483648
      rw [List.getD_eq_getElem?_getD]
      cases hq : jm_sa[k]? with
      | none => decide
      | some l => exact hlen l (List.mem_of_getElem? hq)
  have hC : jm_Cx p room_1 s m meth c (dC, dI) aC s.heap.size (fun k => match k with | 0 => b | k + 1 => tt k) (jm_xt L (fun j => (xs j.toNat).toInt)) 224 200 (104, 4049) 0 0 :=
    ⟨hx, hb, hml, hown, hE, hXt, rfl, fun h => absurd h (by decide), by decide, by decide, by decide, by decide⟩
  obtain ⟨k1, k2, k3⟩ := jm_k_law
  have key := hwp (fun j => (xs j.toNat).toInt) (fun j => jm_rI _) (jm_It p l e room_1 s m #[Value.ref b] below meth c (dC, dI) aC s.heap.size (fun k => match k with | 0 => b | k + 1 => tt k) jm_p_L_law 224 (104, 4049) 0 0 (lw_Z below #[Value.ref b] s))
    (jm_closed hC k1 k2 (fun f vs h Qk hf hc => jm_sound jm_kall l (dC, dI) aC s.heap.size _ _ 200 f vs h Qk hf hc) ?_ ?_)
  · obtain ⟨e0, g1, g2⟩ := jm_go_spec k3
    have hent := jm_entry (ba := s.heap.size) (ex := (fun k => match k with | 0 => b | k + 1 => tt k)) (vs := [.inr (.inr (-2))]) (nL := 4) (by decide) (fun v hv => by rw [List.mem_singleton.mp hv]; exact trivial)
    have k4 := key e0 g1 s.heap [] 0 0 _ ⟨fun k q h => by simp [jm_ws] at h, fun _ _ => jm_r0, va_S.rf, rfl, rfl, by decide, by decide⟩ hent (fun v hv => absurd hv List.not_mem_nil)
    rw [g2] at k4
    rw [lg_entry_eq]
    exact k4
  · intro z h' H locs cells slots ls pc hdc hz hty hq hS
    have hz1 : z = 1 := by
      have := List.cons.inj hq
      exact Sum.inl.inj this.1
    subst hz1
    refine va_forget (fun q hq => hS.2.2.1.2.2 q hq) ?_
    have h4 := hS.2.2.2.1
    have h5 := hS.2.2.2.2.1
    have h6 := hS.2.2.2.2.2.1
    have h7 := hS.2.2.2.2.2.2
    dsimp only at h6 h7
    refine W.widen (k := 600000) (n := 7302250) (by omega) (by omega) ?_
    exact lw_ret hx hb hr hlocks hdc
  · intro h' H locs cells slots ls pc hdc hty
    exact absurd hty (by decide)
