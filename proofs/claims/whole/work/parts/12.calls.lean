section JMI
variable {p : Program} {l : Launch} {e : Env} {R : Room} {s : State} {m : MethodId} {args : Array Value} {below : List Frame} {meth : Method} {c : Code} {D : va_G} {aC : Nat → ClassId} {ba : Nat} {ex : Nat → Nat}
variable {X : jm_X} {n d : Nat} {B : Nat × Nat} {n0 t0 : Nat} {P : List jm_E} {Qz : State → Prop} {C : jm_C} {Q : jm_Q}
/-- what a method makes -/
def jm_al (f : Nat) (h h' : jm_H) : Prop := h'.1.length = h.1.length + jm_mc f ∧ jm_tot h'.1 = jm_tot h.1 + jm_ms f
def jm_Pc (D : va_G) (aC : Nat → ClassId) (ba : Nat) (ex : Nat → Nat) (X : jm_X) (vs : List jm_V) (h : jm_H) : Array Value → State → Prop := fun a U =>
  a = (vs.map (jm_rv ba ex)).toArray ∧ jm_Env D aC U ∧ va_P D vwCl (jm_ws aC ba ex h) U.heap ∧ (∀ i j, jm_r (h.2 i j)) ∧ U.heap.size = ba + h.1.length ∧ jm_Ext ba ex X U U.heap ∧ ∀ v ∈ vs, jm_ok v
def jm_Qc (D : va_G) (aC : Nat → ClassId) (ba : Nat) (ex : Nat → Nat) (f : Nat) (h : jm_H) (Qk : jm_Q) : Array Value → State → Outcome → State → Prop := fun _ st o t =>
  (∃ (v : List jm_V) (h' : jm_H), Qk v h' ∧ jm_al f h h' ∧ o = .returned (v.map (jm_rv ba ex)).head? ∧ v.length ≤ 1 ∧ va_P D vwCl (jm_ws aC ba ex h') t.heap ∧ (∀ i j, jm_r (h'.2 i j)) ∧ ∀ x ∈ v, jm_ok x) ∧ va_F (fun q => ba ≤ q) st t
def jm_rm (d f : Nat) : Room := { frames := d, cells := jm_mc f, slots := jm_ms f, locals := 64 * d }
def jm_Mt (l : Launch) (D : va_G) (aC : Nat → ClassId) (ba : Nat) (ex : Nat → Nat) (X : jm_X) (d f : Nat) (vs : List jm_V) (h : jm_H) (Qk : jm_Q) : Prop :=
  Met l (jm_y f) [.code (jm_y f) (jm_co f) (jm_ma f) (jm_re f)] (jm_rm d f) (jm_Pc D aC ba ex X vs h) (jm_Qc D aC ba ex f h Qk) (jm_mc f) (jm_ms f) (fun q => ba ≤ q)
theorem jm_Pc_blind {vs : List jm_V} {h : jm_H} : FrameBlind (jm_Pc D aC ba ex X vs h) := by
  intro a U g mk hP
  obtain ⟨h1, h2, h3, h4, h5, h6, h7⟩ := hP
  exact ⟨h1, h2.warm (U := U.calling g mk a) (State.WarmedH.refl U), h3, h4, h5, h6.move (U := U.calling g mk a) (Vm.Alike.refl U.vm) (fun _ _ _ => rfl), h7⟩
/-- behind a call -/
theorem jm_after {f : Nat} {h : jm_H} {Qk : jm_Q} {H : Heap} {locs : List Loc} {cells slots pc : Nat} {ls : Array Slot} {st0 : List Value} {r : List jm_V} {a : Array Value} {L : jm_L} {i : Nat} {e1 : jm_E}
    (hr : va_Run p l e R s m args below meth c H locs cells slots (jm_mc f) (jm_ms f) (F0 m pc ls st0) (r.map (jm_rv ba ex)) (jm_Qc D aC ba ex f h Qk a) (fun q => ba ≤ q)) (hS : jm_Sim D aC ba ex s B n0 t0 h H locs cells slots) (hL : jm_LR ba ex ls (jm_ma n) L) (hst : ∀ v ∈ r, jm_ok v)
    (hB : h.1.length + jm_mc f ≤ B.1 ∧ jm_tot h.1 + jm_ms f ≤ B.2) (g1 : P[i]? = some e1) (g2 : e1.1 = pc + 3)
    (kk : ∀ (v : List jm_V) (h' : jm_H), Qk v h' → jm_It p l e R s m args below meth c D aC ba ex P n B n0 t0 Qz i L (v ++ r) h') : W p l e R s m args below meth c H locs cells slots Qz (F0 m pc ls st0) := by
  intro T hT Y
  obtain ⟨v, st₀, t, T', L', h0, Y', hL', y1, y2, ⟨⟨vv, h', hq, hal, hv, hvl, hP, hrg, hok⟩, hz, hk⟩, stp⟩ := hr T hT Y
  cases hv
  rw [h0] at hz hk
  obtain ⟨s1, s2, s3, s4, s5, s6, s7⟩ := hS
  have hst2 : ∀ x ∈ vv ++ r, jm_ok x := fun x hx => (List.mem_append.mp hx).elim (hok x) (hst x)
  have hmem : ∀ q ∈ locs ++ L', (fun q => ba ≤ q) q.base := fun q hq => (List.mem_append.mp hq).elim (s3.2.2 q) (hL' q)
  obtain ⟨t2, a1, b1⟩ := kk vv h' hq e1 g1 T'.heap (locs ++ L') (cells + jm_mc f) (slots + jm_ms f) ls ⟨by rw [y1]; exact hP, hrg, ⟨Nat.le_trans s3.1 (by rw [y1]; exact hz), fun q h1 h2 => by rw [y1, hk q (Nat.lt_of_lt_of_le h1 s3.1) h2]; exact s3.2.1 q h1 h2, hmem⟩, by have := hal.1; omega, by have := hal.2; omega, by have := hal.1; omega, by have := hal.2; omega⟩ hL hst2 T' rfl Y'
  rw [g2] at a1
  have hlist : (vv.map (jm_rv ba ex)).head?.toList ++ r.map (jm_rv ba ex) = (vv ++ r).map (jm_rv ba ex) := by
    rw [List.map_append]
    match vv, hvl with
    | [], _ => rfl
    | [x], _ => rfl
  refine ⟨t2, stp t2 ?_, b1⟩
  show Steps p.tables e below (T'.setTop (F0 m (pc + 3) ls ((vv.map (jm_rv ba ex)).head?.toList ++ r.map (jm_rv ba ex)))) t2
  rw [hlist]
  exact a1
theorem jm_mok_spec {f : Nat} (hf : f < 224) : (∀ w ∈ jm_miw (jm_in f), w ∈ lw_tbl) ∧ (jm_miw (jm_in f)).all goodWord = true ∧ plainName (jm_y f).cls = true ∧ ((jm_y f).cls ≠ "java/lang/invoke/MethodHandle" ∧ (jm_y f).cls ≠ "java/lang/invoke/VarHandle") ∧ (parseMethodDescriptor (jm_y f).desc).map (fun d => d.parameters.length) = some (jm_pa f) ∧ jm_ma f ≤ 45 ∧ jm_CN (jm_ow f) = (jm_y f).cls ∧ jm_ki f ≤ 2 ∧ (jm_ki f = 2 → (jm_y f).name = "<init>" ∧ jm_re f = none) ∧ (jm_ki f = 2 ∨ (jm_mc f = 0 ∧ jm_ms f = 0)) := by
  have hm := jm_mq_mem f hf
  have h2 := List.all_eq_true.mp jm_mq_ok _ hm
  simp only [jm_mok, Bool.and_eq_true, decide_eq_true_eq] at h2
  obtain ⟨a1, a2, a3, a4, a5, a6, a7, a8, a9, a10⟩ := h2
  exact ⟨jm_mq_w _ hm, a1, a2, ⟨a3, a4⟩, a5, a6, a7, a8, a9, a10⟩
/-- a method's word, at any state that the tables hold in -/
theorem jm_mword {f : Nat} (hf : f < 224) {U : State} (hE : jm_Env D aC U) {w : Cond} (hw : w ∈ jm_miw (jm_in f)) (a : Array Value) : w.before a U = true :=
  jm_word hE ((jm_mok_spec hf).1 w hw) (List.all_eq_true.mp (jm_mok_spec hf).2.1 w hw) a
theorem jm_miw_code (f : Nat) : Cond.code (jm_y f) (jm_co f) (jm_ma f) (jm_re f) ∈ jm_miw (jm_in f) := by
  unfold jm_miw
  exact List.mem_append_left _ List.mem_cons_self
theorem jm_miw_init (f : Nat) : Cond.initialized (jm_y f).cls ∈ jm_miw (jm_in f) := by
  unfold jm_miw
  exact List.mem_append_left _ (List.mem_cons_of_mem _ List.mem_cons_self)
theorem jm_miw_static {f : Nat} (h : jm_ki f = 1) : Cond.static (jm_y f) ∈ jm_miw (jm_in f) := by
  unfold jm_miw
  rw [if_pos (show (jm_in f).2.2.2.2.2.2.1 = 1 from h)]
  exact List.mem_append_right _ List.mem_cons_self
theorem jm_miw_inst {f : Nat} (h : jm_ki f ≠ 1) : Cond.instanceMethod (jm_y f) ∈ jm_miw (jm_in f) := by
  unfold jm_miw
  rw [if_neg (show ¬ (jm_in f).2.2.2.2.2.2.1 = 1 from h)]
  refine List.mem_append_right _ ?_
  split <;> exact List.mem_cons_self
theorem jm_miw_sel {f : Nat} (h : jm_ki f = 0) : Cond.selects (jm_y f).cls (jm_y f) (jm_y f) ∈ jm_miw (jm_in f) := by
  unfold jm_miw
  rw [if_neg (show ¬ (jm_in f).2.2.2.2.2.2.1 = 1 by intro q; rw [show (jm_in f).2.2.2.2.2.2.1 = 0 from h] at q; cases q), if_pos (show (jm_in f).2.2.2.2.2.2.1 = 0 from h)]
  exact List.mem_append_right _ (List.mem_cons_of_mem _ List.mem_cons_self)
theorem jm_callB {f x a : Nat} (hf : f < 224) (hE : jm_Env D aC s) (hl : (Cond.methodLink (jm_CN (jm_ow n)) x (jm_y f)).before args s = true) (hfr : d + 1 ≤ R.frames) (hlo : 64 * (d + 1) ≤ R.locals) (hpa : jm_pa f = a) :
    CallB R s args (jm_CN (jm_ow n)) x (jm_y f) (jm_co f) (jm_ma f) (jm_re f) [.code (jm_y f) (jm_co f) (jm_ma f) (jm_re f)] (jm_rm d f) (jm_mc f) (jm_ms f) a := by
  obtain ⟨m1, m2, m3, m4, m5, m6, m7, m8, m9⟩ := jm_mok_spec hf
  refine ⟨rfl, rfl, hfr, ?_, fun w hw a' U hW => ?_, List.mem_cons_self, jm_mword hf hE (jm_miw_code f) args, jm_mword hf hE (jm_miw_init f) args, m4, fun sig h => ?_, hl⟩
  · show 8 + (jm_ma f + 11) + 64 * d ≤ R.locals
    omega
  · rw [List.mem_singleton.mp hw]
    exact jm_mword hf (hE.warm hW) (jm_miw_code f) a'
  · rw [h] at m5
    exact hpa.symm.trans (Option.some.inj m5).symm
theorem jm_pre {vs : List jm_V} {h : jm_H} {H : Heap} {locs : List Loc} {cells slots : Nat} (hE : jm_Env D aC s) (hXt : jm_Ext ba ex X s s.heap) (hsz : s.heap.size = ba + n0) (hS : jm_Sim D aC ba ex s B n0 t0 h H locs cells slots) (hz : H.size ≤ s.heap.size + cells) (hok : ∀ v ∈ vs, jm_ok v) :
    ∀ U : State, U.heap = H → s.WarmedH U.vm → jm_Pc D aC ba ex X vs h (vs.map (jm_rv ba ex)).toArray U := by
  intro U hU hW
  obtain ⟨s1, s2, s3, s4, s5, s6, s7⟩ := hS
  refine ⟨rfl, hE.warm hW, by rw [hU]; exact s1, s2, ?_, ?_, hok⟩
  · have := jm_ge s1 (by have := s3.1; omega)
    rw [hU]
    omega
  · rw [hU]
    exact hXt.move hW.alike (fun a h1 h2 => s3.2.1 a h1 h2)

set_option maxHeartbeats 1000000 in
theorem jm_t_invokevirtual (hIH : ∀ (f : Nat) (vs : List jm_V) (h : jm_H) (Qk : jm_Q), f < 224 → C f vs h Qk → jm_Mt l D aC ba ex X d f vs h Qk) {x : Nat} (hC : jm_Cx p R s m meth c D aC ba ex X n d B n0 t0) {i : Nat} {pc len : Nat} {res : List Int} {L : jm_L} {st : List jm_V} {h : jm_H} (he : P[i]? = some (pc, .invokevirtual x, len, res)) (hdc : decode (jm_co n) pc = .ok (.invokevirtual x, len)) (hck : jm_chk n P i (pc, .invokevirtual x, len, res) = true)
    (hs : jm_sem X C B Q (jm_It p l e R s m args below meth c D aC ba ex P n B n0 t0 Qz) (pc, .invokevirtual x, len, res) i L st h) : jm_It p l e R s m args below meth c D aC ba ex P n B n0 t0 Qz i L st h := by
  intro e' he' H locs cells slots ls hS hL hst
  cases he.symm.trans he'
  obtain ⟨hx, hb, hml, hown, hE, hXt, hsz, hin, hfr, hlo, hBc, hBs⟩ := hC
  simp only [jm_chk, Bool.and_eq_true] at hck
  simp only [jm_sem] at hs
  obtain ⟨hc1, hc2⟩ := hck
  obtain ⟨hl1, e1, g1, g2⟩ := jm_c_spec hc1
  dsimp only at hl1 g2
  subst hl1
  split at hs
  · rename_i f a cl
    split at hs
    · rename_i z r hdr
      split at hs
      · rename_i q hq
        obtain ⟨⟨hz0, hr4, hkd⟩, hs⟩ := hs
        simp only [Bool.and_eq_true, decide_eq_true_eq] at hc2
        obtain ⟨⟨hf, hki, hpa, hcl, hcl2⟩, hany⟩ := hc2
        obtain ⟨w, hw, hw2⟩ := jm_any hany
        simp only [Bool.and_eq_true, beq_iff_eq] at hw2
        obtain ⟨w1, w2, w3⟩ := hw2
        have hwd := jm_word hE (jm_hw_in (List.all_eq_true.mp jm_ml_ok w hw) _ List.mem_cons_self) rfl args
        unfold jm_mlw at hwd
        rw [w1, w2, w3] at hwd
        obtain ⟨m1, m2, m3, m4, m5, m6, m7, m8, m9, m10⟩ := jm_mok_spec hf
        have hmc : jm_mc f.toNat = 0 ∧ jm_ms f.toNat = 0 := by rcases m10 with h9 | h9; omega; exact h9
        have hsplit : st = st.take a.toNat ++ (.inr (.inr z) :: r) := by rw [← hdr, List.take_append_drop]
        have hst1 : ∀ v ∈ st.take a.toNat, jm_ok v := fun v hv => hst v (by rw [hsplit]; exact List.mem_append_left _ hv)
        have hst2 : ∀ v ∈ r, jm_ok v := fun v hv => hst v (by rw [hsplit]; exact List.mem_append_right _ (List.mem_cons_of_mem _ hv))
        have hlen : (st.take a.toNat).length = a.toNat := by
          have h8 : st.length = (st.take a.toNat).length + (r.length + 1) := by
            have := congrArg List.length hsplit
            simpa using this
          rw [List.length_take] at h8 ⊢
          omega
        have hM := hIH f.toNat _ h _ hf hs
        have hent := jm_ws_at (aC := aC) (ba := ba) (ex := ex) hq
        rw [jm_ent_o hkd] at hent
        have hcl3 : cl.toNat < vwCl.length := hcl2
        have hvc := List.getElem?_eq_getElem hcl3
        generalize vwCl[cl.toNat] = vc at hvc
        obtain ⟨ty, -, -, -, -, -, hcn⟩ := jm_ck _ _ hvc
        refine jm_Wsz (fun hz => ?_)
        have hrecv := va_recv hE.2.2.2 hS.1 hvc hent
        rw [hcn, hcl, m7] at hrecv
        have hrun := va_runV (n := a.toNat) (nL := jm_ma n) (cc := jm_co n) (own := jm_CN (jm_ow n)) (index := x) (Ts := []) (C := (jm_y f.toNat).cls) (b := ba + z.toNat) (As := (st.take a.toNat).reverse.map (jm_rv ba ex)) (rest := r.map (jm_rv ba ex)) (g := F0 m pc ls (st.map (jm_rv ba ex))) (p := p) (e := e) (below := below) (meth := meth) (locs := locs) (cells := cells) (slots := slots)
          ⟨hx, hb, hml, hown, fun w h => absurd h List.not_mem_nil⟩ hM ⟨jm_callB hf hE hwd hfr hlo hpa, jm_mword hf hE (jm_miw_inst (by omega)) args, jm_mword hf hE (jm_miw_sel hki) args⟩
          ⟨jm_Pc_blind, hrecv, by
            have h7 := jm_pre (vs := .inr (.inr z) :: (st.take a.toNat).reverse) hE hXt hsz hS hz (List.forall_mem_cons.mpr ⟨trivial, fun v hv => hst1 v (List.mem_reverse.mp hv)⟩)
            rw [List.map_cons, jm_rv_own hz0] at h7
            exact h7⟩ rfl (by rw [List.length_map, List.length_reverse, hlen]) (hL.1) (by
            show st.map (jm_rv ba ex) = _
            rw [hsplit, List.map_append, List.map_cons, jm_rv_own hz0, ← List.map_reverse, List.reverse_reverse]
            simp [hlen]) (by
            have := jm_cat4 ba ex r hr4
            show 2 * 0 + _ ≤ 8
            omega) hdc ⟨by have h4 := hS.2.2.2.1; have h5 := hS.2.2.2.2.2.1; omega, by have h4 := hS.2.2.2.2.1; have h5 := hS.2.2.2.2.2.2; omega⟩
        exact jm_after hrun hS hL hst2 ⟨by have h5 := hS.2.2.2.2.2.1; omega, by have h5 := hS.2.2.2.2.2.2; omega⟩ g1 g2 (fun v h' hq => hq)
      · exact hs.elim
    · exact hs.elim
  · exact hs.elim

set_option maxHeartbeats 1000000 in
theorem jm_t_invokestatic (hIH : ∀ (f : Nat) (vs : List jm_V) (h : jm_H) (Qk : jm_Q), f < 224 → C f vs h Qk → jm_Mt l D aC ba ex X d f vs h Qk) {x : Nat} (hC : jm_Cx p R s m meth c D aC ba ex X n d B n0 t0) {i : Nat} {pc len : Nat} {res : List Int} {L : jm_L} {st : List jm_V} {h : jm_H} (he : P[i]? = some (pc, .invokestatic x, len, res)) (hdc : decode (jm_co n) pc = .ok (.invokestatic x, len)) (hck : jm_chk n P i (pc, .invokestatic x, len, res) = true)
    (hs : jm_sem X C B Q (jm_It p l e R s m args below meth c D aC ba ex P n B n0 t0 Qz) (pc, .invokestatic x, len, res) i L st h) : jm_It p l e R s m args below meth c D aC ba ex P n B n0 t0 Qz i L st h := by
  intro e' he' H locs cells slots ls hS hL hst
  cases he.symm.trans he'
  obtain ⟨hx, hb, hml, hown, hE, hXt, hsz, hin, hfr, hlo, hBc, hBs⟩ := hC
  simp only [jm_chk, Bool.and_eq_true] at hck
  simp only [jm_sem] at hs
  obtain ⟨hc1, hc2⟩ := hck
  obtain ⟨hl1, e1, g1, g2⟩ := jm_c_spec hc1
  dsimp only at hl1 g2
  subst hl1
  split at hs
  · rename_i f a
    obtain ⟨⟨hal, hr4⟩, hs⟩ := hs
    simp only [Bool.and_eq_true, decide_eq_true_eq] at hc2
    obtain ⟨⟨hf, hki, hpa⟩, hany⟩ := hc2
    obtain ⟨w, hw, hw2⟩ := jm_any hany
    simp only [Bool.and_eq_true, beq_iff_eq] at hw2
    obtain ⟨w1, w2, w3⟩ := hw2
    have hwd := jm_word hE (jm_hw_in (List.all_eq_true.mp jm_ml_ok w hw) _ List.mem_cons_self) rfl args
    unfold jm_mlw at hwd
    rw [w1, w2, w3] at hwd
    obtain ⟨m1, m2, m3, m4, m5, m6, m7, m8, m9, m10⟩ := jm_mok_spec hf
    have hmc : jm_mc f.toNat = 0 ∧ jm_ms f.toNat = 0 := by rcases m10 with h9 | h9; omega; exact h9
    have hst1 : ∀ v ∈ st.take a.toNat, jm_ok v := fun v hv => hst v (List.mem_of_mem_take hv)
    have hst2 : ∀ v ∈ st.drop a.toNat, jm_ok v := fun v hv => hst v (List.mem_of_mem_drop hv)
    have hlen : (st.take a.toNat).length = a.toNat := by rw [List.length_take]; omega
    have hM := hIH f.toNat _ h _ hf hs
    refine jm_Wsz (fun hz => ?_)
    have hrun := va_runS (n := a.toNat) (nL := jm_ma n) (cc := jm_co n) (own := jm_CN (jm_ow n)) (index := x) (Ts := []) (As := (st.take a.toNat).reverse.map (jm_rv ba ex)) (rest := (st.drop a.toNat).map (jm_rv ba ex)) (g := F0 m pc ls (st.map (jm_rv ba ex))) (p := p) (e := e) (below := below) (meth := meth) (locs := locs) (cells := cells) (slots := slots)
      ⟨hx, hb, hml, hown, fun w h => absurd h List.not_mem_nil⟩ hM ⟨jm_callB hf hE hwd hfr hlo hpa, jm_mword hf hE (jm_miw_static hki) args⟩
      ⟨jm_Pc_blind, jm_pre (vs := (st.take a.toNat).reverse) hE hXt hsz hS hz (fun v hv => hst1 v (List.mem_reverse.mp hv))⟩ rfl (by rw [List.length_map, List.length_reverse, hlen]) (hL.1) (by
        show st.map (jm_rv ba ex) = _
        rw [← List.map_reverse, List.reverse_reverse, ← List.map_append, List.take_append_drop]) (by
        have := jm_cat4 ba ex _ hr4
        show 2 * 0 + _ ≤ 8
        omega) hdc ⟨by have h4 := hS.2.2.2.1; have h5 := hS.2.2.2.2.2.1; omega, by have h4 := hS.2.2.2.2.1; have h5 := hS.2.2.2.2.2.2; omega⟩
    exact jm_after hrun hS hL hst2 ⟨by have h5 := hS.2.2.2.2.2.1; omega, by have h5 := hS.2.2.2.2.2.2; omega⟩ g1 g2 (fun v h' hq => hq)
  · rename_i f
    split at hs
    · rename_i b a r
      obtain ⟨hr4, hs⟩ := hs
      obtain ⟨vb, hst⟩ := List.forall_mem_cons.mp hst
      obtain ⟨va, hst⟩ := List.forall_mem_cons.mp hst
      have va : jm_r a := va
      have vb : jm_r b := vb
      obtain ⟨w, hw, hw2⟩ := jm_any hc2
      simp only [Bool.and_eq_true, beq_iff_eq] at hw2
      have hwd := jm_word hE (jm_hw_in (List.all_eq_true.mp jm_xl_ok w hw) _ List.mem_cons_self) rfl args
      unfold jm_xlw at hwd
      rw [hw2.1, hw2.2] at hwd
      have hmin : jm_r (min a b) := ⟨by omega, by omega⟩
      have kk := hs e1 g1 H locs cells slots ls hS hL (List.forall_mem_cons.mpr ⟨hmin, hst⟩)
      rw [g2] at kk
      have h8 := jm_cat4 ba ex r hr4
      refine va_mmin hx hb (hml.trans hL.1.symm) hown hwd (jm_word hE jm_w_xs rfl args) (jm_word hE jm_w_xi rfl args) (jm_word hE jm_w_xc rfl args) (by omega) (by omega) (by have h4 := hS.2.2.2.1; have h5 := hS.2.2.2.2.2.1; omega) (by have h4 := hS.2.2.2.2.1; have h5 := hS.2.2.2.2.2.2; omega) hdc ?_
      have hE2 : (if Int32.ofInt b < Int32.ofInt a then Int32.ofInt b else Int32.ofInt a) = Int32.ofInt (min a b) := by
        by_cases hlt : b < a
        · rw [if_pos ((jm_lt vb va).mpr hlt), show min a b = b by omega]
        · rw [if_neg (fun q => hlt ((jm_lt vb va).mp q)), show min a b = a by omega]
      rw [hE2]
      exact kk
    · exact hs.elim
  · split at hs
    · rename_i nn dp dd sp qq r
      split at hs
      · rename_i s1 t1 hq1 hd1
        obtain ⟨⟨hq0, hd0, hk1, hk2, hr4⟩, ⟨⟨hsp, hdp, hnn⟩, hb1, hb2⟩, hs⟩ := hs
        obtain ⟨vn, hst⟩ := List.forall_mem_cons.mp hst
        obtain ⟨vdp, hst⟩ := List.forall_mem_cons.mp hst
        obtain ⟨-, hst⟩ := List.forall_mem_cons.mp hst
        obtain ⟨vsp, hst⟩ := List.forall_mem_cons.mp hst
        obtain ⟨-, hst⟩ := List.forall_mem_cons.mp hst
        have vn : jm_r nn := vn
        have vdp : jm_r dp := vdp
        have vsp : jm_r sp := vsp
        obtain ⟨w, hw, hw2⟩ := jm_any hc2
        simp only [Bool.and_eq_true, beq_iff_eq] at hw2
        have hwd := jm_word hE (jm_hw_in (List.all_eq_true.mp jm_yl_ok w hw) _ List.mem_cons_self) rfl args
        unfold jm_ylw at hwd
        rw [hw2.1, hw2.2] at hwd
        have hen1 := jm_ws_at (aC := aC) (ba := ba) (ex := ex) hq1
        rw [jm_ent_i (by omega), hk1] at hen1
        have hen2 := jm_ws_at (aC := aC) (ba := ba) (ex := ex) hd1
        rw [jm_ent_i (by omega), hk2] at hen2
        have hqz : ((qq.toNat : Nat) : Int) = qq := Int.toNat_of_nonneg hq0
        have hdz : ((dd.toNat : Nat) : Int) = dd := Int.toNat_of_nonneg hd0
        have h8 := jm_cat4 ba ex r hr4
        have hnw : nativeFrameWords "java/lang/System" "arraycopy" 5 ≤ 40 := by decide +kernel
        simp only [List.map_cons]
        rw [jm_rv_own (z := dd) hd0, jm_rv_own (z := qq) hq0]
        refine va_copyi hx hb (hml.trans hL.1.symm) hown hwd (jm_word hE jm_w_yn rfl args) (jm_word hE jm_w_ys rfl args) (jm_word hE jm_w_yi rfl args) hE.2.2.2 hS.1 (jm_ws_D aC ba ex h) hS.2.2.1 qq.toNat dd.toNat 0 0 hen1 hen2 rfl rfl rfl (jm_n0 vsp hsp) (jm_n0 vdp hdp) (jm_n0 vn hnn) (by rw [jm_nn vsp, jm_nn vn]; omega) (by rw [jm_nn vdp, jm_nn vn]; omega) (fun _ _ => rfl) (by omega) (by omega) hdc (fun H1 locs1 a1 _ a3 => ?_)
        have hset : (jm_ws aC ba ex h).set dd.toNat (ba + dd.toNat, .inl (aC 0, t1.2.1, .inl (va_cpy (fun j => Int32.ofInt (h.2 qq.toNat j)) (fun j => Int32.ofInt (h.2 dd.toNat j)) (Int32.ofInt sp).toNatClampNeg (Int32.ofInt dp).toNatClampNeg (Int32.ofInt nn).toNatClampNeg))) = jm_ws aC ba ex (h.1, jm_uc h.2 dd (jm_cpy (h.2 qq) (h.2 dd) sp dp nn)) := by
          refine jm_ws_set rfl hd1 ?_ (fun b hb => ⟨rfl, jm_uc_ne (by omega)⟩)
          rw [jm_ent_i (by omega), hk2, jm_nn vsp, jm_nn vdp, jm_nn vn]
          congr 4
          funext b
          simp only [hqz, hdz, jm_uc_self, jm_cpy, va_cpy]
          by_cases hbj : dp.toNat ≤ b ∧ b < dp.toNat + nn.toNat
          · rw [if_pos hbj, if_pos (by omega)]
            rw [show ((sp.toNat + (b - dp.toNat) : Nat) : Int) = sp + ((b : Int) - dp) by omega]
          · rw [if_neg hbj, if_neg (by omega)]
        rw [hset] at a1
        have hrg : ∀ i j, jm_r (jm_uc h.2 dd (jm_cpy (h.2 qq) (h.2 dd) sp dp nn) i j) := by
          intro i j
          unfold jm_uc jm_cpy
          split
          · dsimp only
            split
            · exact hS.2.1 _ _
            · exact hS.2.1 _ _
          · exact hS.2.1 i j
        have kk := hs e1 g1 H1 locs1 cells slots ls ⟨a1, hrg, a3, hS.2.2.2⟩ hL hst
        rw [g2] at kk
        exact kk
      · exact hs.elim
    · exact hs.elim
  · exact hs.elim

set_option maxHeartbeats 1000000 in
theorem jm_t_invokespecial (hIH : ∀ (f : Nat) (vs : List jm_V) (h : jm_H) (Qk : jm_Q), f < 224 → C f vs h Qk → jm_Mt l D aC ba ex X d f vs h Qk) {x : Nat} (hC : jm_Cx p R s m meth c D aC ba ex X n d B n0 t0) {i : Nat} {pc len : Nat} {res : List Int} {L : jm_L} {st : List jm_V} {h : jm_H} (he : P[i]? = some (pc, .invokespecial x, len, res)) (hdc : decode (jm_co n) pc = .ok (.invokespecial x, len)) (hck : jm_chk n P i (pc, .invokespecial x, len, res) = true)
    (hs : jm_sem X C B Q (jm_It p l e R s m args below meth c D aC ba ex P n B n0 t0 Qz) (pc, .invokespecial x, len, res) i L st h) : jm_It p l e R s m args below meth c D aC ba ex P n B n0 t0 Qz i L st h := by
  intro e' he' H locs cells slots ls hS hL hst
  cases he.symm.trans he'
  obtain ⟨hx, hb, hml, hown, hE, hXt, hsz, hin, hfr, hlo, hBc, hBs⟩ := hC
  simp only [jm_chk, Bool.and_eq_true] at hck
  simp only [jm_sem] at hs
  obtain ⟨hc1, hc2⟩ := hck
  obtain ⟨hl1, e1, g1, g2⟩ := jm_c_spec hc1
  dsimp only at hl1 g2
  subst hl1
  split at hs
  · rename_i f mc ms
    split at hs
    · rename_i z r
      obtain ⟨⟨hz0, hr4⟩, ⟨hb1, hb2⟩, hs⟩ := hs
      simp only [Bool.and_eq_true, Bool.or_eq_true, decide_eq_true_eq] at hc2
      obtain ⟨⟨hf, hki, hpa, hmc, hms⟩, hany⟩ := hc2
      obtain ⟨m1, m2, m3, m4, m5, m6, m7, m8, m9, m10⟩ := jm_mok_spec hf
      obtain ⟨-, hst2⟩ := List.forall_mem_cons.mp hst
      have hM := hIH f.toNat _ h _ hf hs
      refine jm_Wsz (fun hz => ?_)
      have h4 := hS.2.2.2.1
      have h5 := hS.2.2.2.2.1
      have hcat : 2 * (F0 m pc ls (((.inr (.inr z) :: r : List jm_V)).map (jm_rv ba ex))).monitorRoom + ((r.map (jm_rv ba ex)).map fun v => v.category).sum ≤ 8 := by
        have := jm_cat4 ba ex r hr4
        show 2 * 0 + _ ≤ 8
        omega
      have hpre : PreS s H (jm_Pc D aC ba ex X [.inr (.inr z)] h) (.ref (ba + z.toNat) :: []) := ⟨jm_Pc_blind, by
        have h7 := jm_pre (vs := [.inr (.inr z)]) hE hXt hsz hS hz (List.forall_mem_cons.mpr ⟨trivial, fun v hv => absurd hv List.not_mem_nil⟩)
        rw [List.map_cons, jm_rv_own hz0] at h7
        exact h7⟩
      have hstk : (F0 m pc ls (((.inr (.inr z) :: r : List jm_V)).map (jm_rv ba ex))).stack = ([] : List Value).reverse ++ .ref (ba + z.toNat) :: r.map (jm_rv ba ex) := by
        show (((.inr (.inr z) :: r : List jm_V)).map (jm_rv ba ex)) = _
        rw [List.map_cons, jm_rv_own hz0]
        rfl
      have hre : jm_re f.toNat = none := (m9 hki).2
      unfold jm_Mt at hM
      rw [hre] at hM
      have hcode := jm_mword hf hE (jm_miw_code f.toNat) args
      rw [hre] at hcode
      rcases hany with hany | hany
      · obtain ⟨w, hw, hw2⟩ := jm_any hany
        simp only [Bool.and_eq_true, beq_iff_eq] at hw2
        obtain ⟨w1, w2, w3⟩ := hw2
        have hwd := jm_word hE (jm_hw_in (List.all_eq_true.mp jm_ml_ok w hw) _ List.mem_cons_self) rfl args
        unfold jm_mlw at hwd
        rw [w1, w2, w3] at hwd
        have hcb := jm_callB hf hE hwd hfr hlo hpa
        rw [hre] at hcb
        have hrun := va_runI (n := 0) (nL := jm_ma n) (cc := jm_co n) (own := jm_CN (jm_ow n)) (index := x) (Ts := []) (b := ba + z.toNat) (As := []) (rest := r.map (jm_rv ba ex)) (g := F0 m pc ls (((.inr (.inr z) :: r : List jm_V)).map (jm_rv ba ex))) (p := p) (e := e) (below := below) (meth := meth) (locs := locs) (cells := cells) (slots := slots)
          ⟨hx, hb, hml, hown, fun w h => absurd h List.not_mem_nil⟩ hM ⟨hcb, (m9 hki).1, jm_mword hf hE (jm_miw_inst (by omega)) args⟩ hpre rfl rfl (hL.1) hstk hcat hdc ⟨by omega, by omega⟩
        exact jm_after hrun hS hL hst2 ⟨by omega, by omega⟩ g1 g2 (fun v h' hq => hq)
      · obtain ⟨w, hw, hw2⟩ := jm_any hany
        simp only [Bool.and_eq_true, beq_iff_eq] at hw2
        obtain ⟨w1, w2, w3⟩ := hw2
        have hwd := hE.2.1 w hw
        unfold jm_nlw at hwd
        rw [w1, w2, w3] at hwd
        have hcn : va_CN R s args (jm_CN (jm_ow n)) x (jm_y f.toNat) "MatNations" (jm_co f.toNat) (jm_ma f.toNat) none [.code (jm_y f.toNat) (jm_co f.toNat) (jm_ma f.toNat) none] (jm_rm d f.toNat) (jm_mc f.toNat) (jm_ms f.toNat) 0 := by
          refine ⟨⟨rfl, rfl, hfr, ?_, fun w hw a' U hW => ?_, List.mem_cons_self⟩, hcode, jm_mword hf hE (jm_miw_init f.toNat) args, m4, fun sig h => ?_, va_Nw.use rfl hwd⟩
          · show 8 + (jm_ma f.toNat + 11) + 64 * d ≤ R.locals
            omega
          · rw [List.mem_singleton.mp hw]
            have := jm_mword hf (hE.warm hW) (jm_miw_code f.toNat) a'
            rw [hre] at this
            exact this
          · rw [h] at m5
            exact hpa.symm.trans (Option.some.inj m5).symm
        have hrun := va_runIN (n := 0) (nL := jm_ma n) (cc := jm_co n) (own := jm_CN (jm_ow n)) (index := x) (Ts := []) (b := ba + z.toNat) (As := []) (rest := r.map (jm_rv ba ex)) (g := F0 m pc ls (((.inr (.inr z) :: r : List jm_V)).map (jm_rv ba ex))) (p := p) (e := e) (below := below) (meth := meth) (locs := locs) (cells := cells) (slots := slots)
          ⟨hx, hb, hml, hown, fun w h => absurd h List.not_mem_nil⟩ hM ⟨hcn, (m9 hki).1, jm_mword hf hE (jm_miw_inst (by omega)) args⟩ hpre rfl rfl (hL.1) hstk hcat hdc ⟨by omega, by omega⟩
        exact jm_after hrun hS hL hst2 ⟨by omega, by omega⟩ g1 g2 (fun v h' hq => hq)
    · exact hs.elim
  · split at hs
    · rename_i z r
      obtain ⟨⟨hz0, hr4⟩, hs⟩ := hs
      obtain ⟨-, hst2⟩ := List.forall_mem_cons.mp hst
      obtain ⟨w, hw, hw2⟩ := jm_any hc2
      simp only [Bool.and_eq_true, beq_iff_eq] at hw2
      have hwd := jm_word hE (jm_hw_in (List.all_eq_true.mp jm_ol_ok w hw) _ List.mem_cons_self) rfl args
      unfold jm_olw at hwd
      rw [hw2.1, hw2.2] at hwd
      have kk := hs e1 g1 H locs cells slots ls hS hL hst2
      rw [g2] at kk
      have h8 := jm_cat4 ba ex r hr4
      rw [List.map_cons, jm_rv_own hz0]
      refine W.objInit hx hb hown hwd (jm_word hE jm_w_oi rfl args) (jm_word hE jm_w_oc rfl args) rfl (by rw [hml]; exact hL.1) rfl hdc (by omega) ?_ kk
      show 2 * 0 + _ + 12 ≤ R.locals
      omega
    · exact hs.elim
  · exact hs.elim

end JMI
