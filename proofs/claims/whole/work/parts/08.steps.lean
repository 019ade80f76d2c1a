section JMS
variable {p : Program} {l : Launch} {e : Env} {R : Room} {s : State} {m : MethodId} {args : Array Value} {below : List Frame} {meth : Method} {c : Code} {D : va_G} {aC : Nat → ClassId} {ba : Nat} {ex : Nat → Nat}
variable {X : jm_X} {n d : Nat} {B : Nat × Nat} {n0 t0 : Nat} {P : List jm_E} {Qz : State → Prop} {C : jm_C} {Q : jm_Q}
theorem jm_any {α : Type} {l : List α} {f : α → Bool} (h : l.any f = true) : ∃ q ∈ l, f q = true := List.any_eq_true.mp h
theorem jm_word {U : State} (hE : jm_Env D aC U) {w : Cond} (hw : w ∈ lw_tbl) (hg : goodWord w = true) (a : Array Value) : w.before a U = true := hE.1 w hw hg a
theorem jm_Tsb {U : State} (hE : jm_Env D aC U) (a : Array Value) : ∀ w ∈ jm_Ts, w.before a U = true := fun w hw => hE.1 w (List.mem_filter.mp hw).1 (List.mem_filter.mp hw).2 a

set_option maxHeartbeats 1000000 in
theorem jm_t_iconst {v : Int} (hC : jm_Cx p R s m meth c D aC ba ex X n d B n0 t0) {i : Nat} {pc len : Nat} {res : List Int} {L : jm_L} {st : List jm_V} {h : jm_H} (he : P[i]? = some (pc, .iconst v, len, res)) (hdc : decode (jm_co n) pc = .ok (.iconst v, len)) (hck : jm_chk n P i (pc, .iconst v, len, res) = true)
    (hs : jm_sem X C B Q (jm_It p l e R s m args below meth c D aC ba ex P n B n0 t0 Qz) (pc, .iconst v, len, res) i L st h) : jm_It p l e R s m args below meth c D aC ba ex P n B n0 t0 Qz i L st h := by
  intro e' he' H locs cells slots ls hS hL hst
  cases he.symm.trans he'
  obtain ⟨hx, hb, hml, hown, hE, hXt, hsz, hin, hfr, hlo, hBc, hBs⟩ := hC
  simp only [jm_chk, Bool.and_eq_true, decide_eq_true_eq] at hck
  simp only [jm_sem] at hs
  obtain ⟨hl1, e1, g1, g2⟩ := jm_c_spec hck.1
  dsimp only at hl1 g2
  subst hl1
  have kk := hs e1 g1 H locs cells slots ls hS hL (List.forall_mem_cons.mpr ⟨hck.2, hst⟩)
  rw [g2] at kk
  exact lv_iconst hx hb hdc rfl kk

set_option maxHeartbeats 1000000 in
theorem jm_t_bipush {v : Int} (hC : jm_Cx p R s m meth c D aC ba ex X n d B n0 t0) {i : Nat} {pc len : Nat} {res : List Int} {L : jm_L} {st : List jm_V} {h : jm_H} (he : P[i]? = some (pc, .bipush v, len, res)) (hdc : decode (jm_co n) pc = .ok (.bipush v, len)) (hck : jm_chk n P i (pc, .bipush v, len, res) = true)
    (hs : jm_sem X C B Q (jm_It p l e R s m args below meth c D aC ba ex P n B n0 t0 Qz) (pc, .bipush v, len, res) i L st h) : jm_It p l e R s m args below meth c D aC ba ex P n B n0 t0 Qz i L st h := by
  intro e' he' H locs cells slots ls hS hL hst
  cases he.symm.trans he'
  obtain ⟨hx, hb, hml, hown, hE, hXt, hsz, hin, hfr, hlo, hBc, hBs⟩ := hC
  simp only [jm_chk, Bool.and_eq_true, decide_eq_true_eq] at hck
  simp only [jm_sem] at hs
  obtain ⟨hl1, e1, g1, g2⟩ := jm_c_spec hck.1
  dsimp only at hl1 g2
  subst hl1
  have kk := hs e1 g1 H locs cells slots ls hS hL (List.forall_mem_cons.mpr ⟨hck.2.1, hst⟩)
  rw [g2] at kk
  exact lv_bipush hx hb hdc hck.2.2 kk

set_option maxHeartbeats 1000000 in
theorem jm_t_sipush {v : Int} (hC : jm_Cx p R s m meth c D aC ba ex X n d B n0 t0) {i : Nat} {pc len : Nat} {res : List Int} {L : jm_L} {st : List jm_V} {h : jm_H} (he : P[i]? = some (pc, .sipush v, len, res)) (hdc : decode (jm_co n) pc = .ok (.sipush v, len)) (hck : jm_chk n P i (pc, .sipush v, len, res) = true)
    (hs : jm_sem X C B Q (jm_It p l e R s m args below meth c D aC ba ex P n B n0 t0 Qz) (pc, .sipush v, len, res) i L st h) : jm_It p l e R s m args below meth c D aC ba ex P n B n0 t0 Qz i L st h := by
  intro e' he' H locs cells slots ls hS hL hst
  cases he.symm.trans he'
  obtain ⟨hx, hb, hml, hown, hE, hXt, hsz, hin, hfr, hlo, hBc, hBs⟩ := hC
  simp only [jm_chk, Bool.and_eq_true, decide_eq_true_eq] at hck
  simp only [jm_sem] at hs
  obtain ⟨hl1, e1, g1, g2⟩ := jm_c_spec hck.1
  dsimp only at hl1 g2
  subst hl1
  have kk := hs e1 g1 H locs cells slots ls hS hL (List.forall_mem_cons.mpr ⟨hck.2.1, hst⟩)
  rw [g2] at kk
  exact lv_sipush hx hb hdc hck.2.2 kk

set_option maxHeartbeats 1000000 in
theorem jm_t_ldc {x : Nat} (hC : jm_Cx p R s m meth c D aC ba ex X n d B n0 t0) {i : Nat} {pc len : Nat} {res : List Int} {L : jm_L} {st : List jm_V} {h : jm_H} (he : P[i]? = some (pc, .ldc x, len, res)) (hdc : decode (jm_co n) pc = .ok (.ldc x, len)) (hck : jm_chk n P i (pc, .ldc x, len, res) = true)
    (hs : jm_sem X C B Q (jm_It p l e R s m args below meth c D aC ba ex P n B n0 t0 Qz) (pc, .ldc x, len, res) i L st h) : jm_It p l e R s m args below meth c D aC ba ex P n B n0 t0 Qz i L st h := by
  intro e' he' H locs cells slots ls hS hL hst
  cases he.symm.trans he'
  obtain ⟨hx, hb, hml, hown, hE, hXt, hsz, hin, hfr, hlo, hBc, hBs⟩ := hC
  simp only [jm_chk, Bool.and_eq_true] at hck
  simp only [jm_sem] at hs
  obtain ⟨hc1, hc2⟩ := hck
  split at hs
  · rename_i v
    simp only [Bool.and_eq_true, decide_eq_true_eq] at hc2
    obtain ⟨q, hq, hq2⟩ := jm_any hc2.2
    simp only [Bool.and_eq_true, beq_iff_eq] at hq2
    have hw := List.all_eq_true.mp jm_kl_ok q hq
    have hw := jm_hw_in hw _ List.mem_cons_self
    have hk := jm_word hE hw rfl args
    obtain ⟨hl1, e1, g1, g2⟩ := jm_c_spec hc1
    dsimp only at hl1 g2
    subst hl1
    have kk := hs e1 g1 H locs cells slots ls hS hL (List.forall_mem_cons.mpr ⟨hc2.1, hst⟩)
    rw [g2] at kk
    obtain ⟨z1, z2, z3⟩ := hq2
    unfold jm_klw at hk
    rw [z1, z2, z3] at hk
    exact lv_ldc hx hb hown hk hdc kk
  · exact hs.elim

set_option maxHeartbeats 1000000 in
theorem jm_t_ldc_w {x : Nat} (hC : jm_Cx p R s m meth c D aC ba ex X n d B n0 t0) {i : Nat} {pc len : Nat} {res : List Int} {L : jm_L} {st : List jm_V} {h : jm_H} (he : P[i]? = some (pc, .ldc_w x, len, res)) (hdc : decode (jm_co n) pc = .ok (.ldc_w x, len)) (hck : jm_chk n P i (pc, .ldc_w x, len, res) = true)
    (hs : jm_sem X C B Q (jm_It p l e R s m args below meth c D aC ba ex P n B n0 t0 Qz) (pc, .ldc_w x, len, res) i L st h) : jm_It p l e R s m args below meth c D aC ba ex P n B n0 t0 Qz i L st h := by
  intro e' he' H locs cells slots ls hS hL hst
  cases he.symm.trans he'
  obtain ⟨hx, hb, hml, hown, hE, hXt, hsz, hin, hfr, hlo, hBc, hBs⟩ := hC
  simp only [jm_chk, Bool.and_eq_true] at hck
  simp only [jm_sem] at hs
  obtain ⟨hc1, hc2⟩ := hck
  split at hs
  · rename_i v
    simp only [Bool.and_eq_true, decide_eq_true_eq] at hc2
    obtain ⟨q, hq, hq2⟩ := jm_any hc2.2
    simp only [Bool.and_eq_true, beq_iff_eq] at hq2
    have hw := List.all_eq_true.mp jm_kl_ok q hq
    have hw := jm_hw_in hw _ List.mem_cons_self
    have hk := jm_word hE hw rfl args
    obtain ⟨hl1, e1, g1, g2⟩ := jm_c_spec hc1
    dsimp only at hl1 g2
    subst hl1
    have kk := hs e1 g1 H locs cells slots ls hS hL (List.forall_mem_cons.mpr ⟨hc2.1, hst⟩)
    rw [g2] at kk
    obtain ⟨z1, z2, z3⟩ := hq2
    unfold jm_klw at hk
    rw [z1, z2, z3] at hk
    exact lv_ldcw hx hb hown hk hdc kk
  · exact hs.elim

set_option maxHeartbeats 1000000 in
theorem jm_t_ldc2_w {x : Nat} (hC : jm_Cx p R s m meth c D aC ba ex X n d B n0 t0) {i : Nat} {pc len : Nat} {res : List Int} {L : jm_L} {st : List jm_V} {h : jm_H} (he : P[i]? = some (pc, .ldc2_w x, len, res)) (hdc : decode (jm_co n) pc = .ok (.ldc2_w x, len)) (hck : jm_chk n P i (pc, .ldc2_w x, len, res) = true)
    (hs : jm_sem X C B Q (jm_It p l e R s m args below meth c D aC ba ex P n B n0 t0 Qz) (pc, .ldc2_w x, len, res) i L st h) : jm_It p l e R s m args below meth c D aC ba ex P n B n0 t0 Qz i L st h := by
  intro e' he' H locs cells slots ls hS hL hst
  cases he.symm.trans he'
  obtain ⟨hx, hb, hml, hown, hE, hXt, hsz, hin, hfr, hlo, hBc, hBs⟩ := hC
  simp only [jm_chk, Bool.and_eq_true] at hck
  simp only [jm_sem] at hs
  obtain ⟨hc1, hc2⟩ := hck
  split at hs
  · rename_i v
    simp only [Bool.and_eq_true, decide_eq_true_eq] at hc2
    obtain ⟨q, hq, hq2⟩ := jm_any hc2.2
    simp only [Bool.and_eq_true, beq_iff_eq] at hq2
    have hw := List.all_eq_true.mp jm_jl_ok q hq
    have hw := jm_hw_in hw _ List.mem_cons_self
    have hk := jm_word hE hw rfl args
    obtain ⟨hl1, e1, g1, g2⟩ := jm_c_spec hc1
    dsimp only at hl1 g2
    subst hl1
    have kk := hs e1 g1 H locs cells slots ls hS hL (List.forall_mem_cons.mpr ⟨hc2.1, hst⟩)
    rw [g2] at kk
    obtain ⟨z1, z2, z3⟩ := hq2
    unfold jm_jlw at hk
    rw [z1, z2, z3] at hk
    exact lv_ldc2 hx hb hown hk hdc kk
  · exact hs.elim

set_option maxHeartbeats 1000000 in
theorem jm_t_lconst {v : Fin 2} (hC : jm_Cx p R s m meth c D aC ba ex X n d B n0 t0) {i : Nat} {pc len : Nat} {res : List Int} {L : jm_L} {st : List jm_V} {h : jm_H} (he : P[i]? = some (pc, .lconst v, len, res)) (hdc : decode (jm_co n) pc = .ok (.lconst v, len)) (hck : jm_chk n P i (pc, .lconst v, len, res) = true)
    (hs : jm_sem X C B Q (jm_It p l e R s m args below meth c D aC ba ex P n B n0 t0 Qz) (pc, .lconst v, len, res) i L st h) : jm_It p l e R s m args below meth c D aC ba ex P n B n0 t0 Qz i L st h := by
  intro e' he' H locs cells slots ls hS hL hst
  cases he.symm.trans he'
  obtain ⟨hx, hb, hml, hown, hE, hXt, hsz, hin, hfr, hlo, hBc, hBs⟩ := hC
  simp only [jm_chk] at hck
  simp only [jm_sem] at hs
  obtain ⟨hl1, e1, g1, g2⟩ := jm_c_spec hck
  dsimp only at hl1 g2
  subst hl1
  have hv : jm_rl (v.val : Int) := by have := v.isLt; exact ⟨by omega, by omega⟩
  have kk := hs e1 g1 H locs cells slots ls hS hL (List.forall_mem_cons.mpr ⟨hv, hst⟩)
  rw [g2] at kk
  exact lv_lconst hx hb hdc (by rw [← Int64.ofInt_eq_ofNat]) kk

set_option maxHeartbeats 1000000 in
theorem jm_t_iload {k : Nat} (hC : jm_Cx p R s m meth c D aC ba ex X n d B n0 t0) {i : Nat} {pc len : Nat} {res : List Int} {L : jm_L} {st : List jm_V} {h : jm_H} (he : P[i]? = some (pc, .iload k, len, res)) (hdc : decode (jm_co n) pc = .ok (.iload k, len)) (hck : jm_chk n P i (pc, .iload k, len, res) = true)
    (hs : jm_sem X C B Q (jm_It p l e R s m args below meth c D aC ba ex P n B n0 t0 Qz) (pc, .iload k, len, res) i L st h) : jm_It p l e R s m args below meth c D aC ba ex P n B n0 t0 Qz i L st h := by
  intro e' he' H locs cells slots ls hS hL hst
  cases he.symm.trans he'
  obtain ⟨hx, hb, hml, hown, hE, hXt, hsz, hin, hfr, hlo, hBc, hBs⟩ := hC
  simp only [jm_chk] at hck
  simp only [jm_sem] at hs
  obtain ⟨hl1, e1, g1, g2⟩ := jm_c_spec hck
  dsimp only at hl1 g2
  subst hl1
  split at hs
  · rename_i z hz
    obtain ⟨hl2, hv⟩ := hL.2.2 _ _ hz
    have kk := hs e1 g1 H locs cells slots ls hS hL (List.forall_mem_cons.mpr ⟨hv, hst⟩)
    rw [g2] at kk
    exact lv_iload hx hb hdc hl2 kk
  · exact hs.elim

set_option maxHeartbeats 1000000 in
theorem jm_t_iload_n {k : Fin 4} (hC : jm_Cx p R s m meth c D aC ba ex X n d B n0 t0) {i : Nat} {pc len : Nat} {res : List Int} {L : jm_L} {st : List jm_V} {h : jm_H} (he : P[i]? = some (pc, .iload_n k, len, res)) (hdc : decode (jm_co n) pc = .ok (.iload_n k, len)) (hck : jm_chk n P i (pc, .iload_n k, len, res) = true)
    (hs : jm_sem X C B Q (jm_It p l e R s m args below meth c D aC ba ex P n B n0 t0 Qz) (pc, .iload_n k, len, res) i L st h) : jm_It p l e R s m args below meth c D aC ba ex P n B n0 t0 Qz i L st h := by
  intro e' he' H locs cells slots ls hS hL hst
  cases he.symm.trans he'
  obtain ⟨hx, hb, hml, hown, hE, hXt, hsz, hin, hfr, hlo, hBc, hBs⟩ := hC
  simp only [jm_chk] at hck
  simp only [jm_sem] at hs
  obtain ⟨hl1, e1, g1, g2⟩ := jm_c_spec hck
  dsimp only at hl1 g2
  subst hl1
  split at hs
  · rename_i z hz
    obtain ⟨hl2, hv⟩ := hL.2.2 _ _ hz
    have kk := hs e1 g1 H locs cells slots ls hS hL (List.forall_mem_cons.mpr ⟨hv, hst⟩)
    rw [g2] at kk
    exact lv_iload_n hx hb hdc rfl hl2 kk
  · exact hs.elim

set_option maxHeartbeats 1000000 in
theorem jm_t_lload {k : Nat} (hC : jm_Cx p R s m meth c D aC ba ex X n d B n0 t0) {i : Nat} {pc len : Nat} {res : List Int} {L : jm_L} {st : List jm_V} {h : jm_H} (he : P[i]? = some (pc, .lload k, len, res)) (hdc : decode (jm_co n) pc = .ok (.lload k, len)) (hck : jm_chk n P i (pc, .lload k, len, res) = true)
    (hs : jm_sem X C B Q (jm_It p l e R s m args below meth c D aC ba ex P n B n0 t0 Qz) (pc, .lload k, len, res) i L st h) : jm_It p l e R s m args below meth c D aC ba ex P n B n0 t0 Qz i L st h := by
  intro e' he' H locs cells slots ls hS hL hst
  cases he.symm.trans he'
  obtain ⟨hx, hb, hml, hown, hE, hXt, hsz, hin, hfr, hlo, hBc, hBs⟩ := hC
  simp only [jm_chk] at hck
  simp only [jm_sem] at hs
  obtain ⟨hl1, e1, g1, g2⟩ := jm_c_spec hck
  dsimp only at hl1 g2
  subst hl1
  split at hs
  · rename_i z hz
    obtain ⟨hl2, hv⟩ := hL.2.2 _ _ hz
    have kk := hs e1 g1 H locs cells slots ls hS hL (List.forall_mem_cons.mpr ⟨hv, hst⟩)
    rw [g2] at kk
    exact lv_lload hx hb hdc hl2 kk
  · exact hs.elim

set_option maxHeartbeats 1000000 in
theorem jm_t_lload_n {k : Fin 4} (hC : jm_Cx p R s m meth c D aC ba ex X n d B n0 t0) {i : Nat} {pc len : Nat} {res : List Int} {L : jm_L} {st : List jm_V} {h : jm_H} (he : P[i]? = some (pc, .lload_n k, len, res)) (hdc : decode (jm_co n) pc = .ok (.lload_n k, len)) (hck : jm_chk n P i (pc, .lload_n k, len, res) = true)
    (hs : jm_sem X C B Q (jm_It p l e R s m args below meth c D aC ba ex P n B n0 t0 Qz) (pc, .lload_n k, len, res) i L st h) : jm_It p l e R s m args below meth c D aC ba ex P n B n0 t0 Qz i L st h := by
  intro e' he' H locs cells slots ls hS hL hst
  cases he.symm.trans he'
  obtain ⟨hx, hb, hml, hown, hE, hXt, hsz, hin, hfr, hlo, hBc, hBs⟩ := hC
  simp only [jm_chk] at hck
  simp only [jm_sem] at hs
  obtain ⟨hl1, e1, g1, g2⟩ := jm_c_spec hck
  dsimp only at hl1 g2
  subst hl1
  split at hs
  · rename_i z hz
    obtain ⟨hl2, hv⟩ := hL.2.2 _ _ hz
    have kk := hs e1 g1 H locs cells slots ls hS hL (List.forall_mem_cons.mpr ⟨hv, hst⟩)
    rw [g2] at kk
    exact lv_lload_n hx hb hdc rfl hl2 kk
  · exact hs.elim

set_option maxHeartbeats 1000000 in
theorem jm_t_aload {k : Nat} (hC : jm_Cx p R s m meth c D aC ba ex X n d B n0 t0) {i : Nat} {pc len : Nat} {res : List Int} {L : jm_L} {st : List jm_V} {h : jm_H} (he : P[i]? = some (pc, .aload k, len, res)) (hdc : decode (jm_co n) pc = .ok (.aload k, len)) (hck : jm_chk n P i (pc, .aload k, len, res) = true)
    (hs : jm_sem X C B Q (jm_It p l e R s m args below meth c D aC ba ex P n B n0 t0 Qz) (pc, .aload k, len, res) i L st h) : jm_It p l e R s m args below meth c D aC ba ex P n B n0 t0 Qz i L st h := by
  intro e' he' H locs cells slots ls hS hL hst
  cases he.symm.trans he'
  obtain ⟨hx, hb, hml, hown, hE, hXt, hsz, hin, hfr, hlo, hBc, hBs⟩ := hC
  simp only [jm_chk] at hck
  simp only [jm_sem] at hs
  obtain ⟨hl1, e1, g1, g2⟩ := jm_c_spec hck
  dsimp only at hl1 g2
  subst hl1
  split at hs
  · rename_i z hz
    obtain ⟨hl2, hv⟩ := hL.2.2 _ _ hz
    obtain ⟨hne, hs⟩ := hs
    obtain ⟨x, hx2⟩ := jm_rv_ref (ba := ba) (ex := ex) hne
    have kk := hs e1 g1 H locs cells slots ls hS hL (List.forall_mem_cons.mpr ⟨hv, hst⟩)
    rw [g2, List.map_cons, hx2] at kk
    rw [hx2] at hl2
    exact lv_aload hx hb hdc hl2 kk
  · exact hs.elim

set_option maxHeartbeats 1000000 in
theorem jm_t_aload_n {k : Fin 4} (hC : jm_Cx p R s m meth c D aC ba ex X n d B n0 t0) {i : Nat} {pc len : Nat} {res : List Int} {L : jm_L} {st : List jm_V} {h : jm_H} (he : P[i]? = some (pc, .aload_n k, len, res)) (hdc : decode (jm_co n) pc = .ok (.aload_n k, len)) (hck : jm_chk n P i (pc, .aload_n k, len, res) = true)
    (hs : jm_sem X C B Q (jm_It p l e R s m args below meth c D aC ba ex P n B n0 t0 Qz) (pc, .aload_n k, len, res) i L st h) : jm_It p l e R s m args below meth c D aC ba ex P n B n0 t0 Qz i L st h := by
  intro e' he' H locs cells slots ls hS hL hst
  cases he.symm.trans he'
  obtain ⟨hx, hb, hml, hown, hE, hXt, hsz, hin, hfr, hlo, hBc, hBs⟩ := hC
  simp only [jm_chk] at hck
  simp only [jm_sem] at hs
  obtain ⟨hl1, e1, g1, g2⟩ := jm_c_spec hck
  dsimp only at hl1 g2
  subst hl1
  split at hs
  · rename_i z hz
    obtain ⟨hl2, hv⟩ := hL.2.2 _ _ hz
    obtain ⟨hne, hs⟩ := hs
    obtain ⟨x, hx2⟩ := jm_rv_ref (ba := ba) (ex := ex) hne
    have kk := hs e1 g1 H locs cells slots ls hS hL (List.forall_mem_cons.mpr ⟨hv, hst⟩)
    rw [g2, List.map_cons, hx2] at kk
    rw [hx2] at hl2
    exact lv_aload_n hx hb hdc rfl hl2 kk
  · exact hs.elim

set_option maxHeartbeats 1000000 in
theorem jm_t_istore {k : Nat} (hC : jm_Cx p R s m meth c D aC ba ex X n d B n0 t0) {i : Nat} {pc len : Nat} {res : List Int} {L : jm_L} {st : List jm_V} {h : jm_H} (he : P[i]? = some (pc, .istore k, len, res)) (hdc : decode (jm_co n) pc = .ok (.istore k, len)) (hck : jm_chk n P i (pc, .istore k, len, res) = true)
    (hs : jm_sem X C B Q (jm_It p l e R s m args below meth c D aC ba ex P n B n0 t0 Qz) (pc, .istore k, len, res) i L st h) : jm_It p l e R s m args below meth c D aC ba ex P n B n0 t0 Qz i L st h := by
  intro e' he' H locs cells slots ls hS hL hst
  cases he.symm.trans he'
  obtain ⟨hx, hb, hml, hown, hE, hXt, hsz, hin, hfr, hlo, hBc, hBs⟩ := hC
  simp only [jm_chk, Bool.and_eq_true, decide_eq_true_eq] at hck
  simp only [jm_sem] at hs
  obtain ⟨hc1, hc2⟩ := hck
  obtain ⟨hl1, e1, g1, g2⟩ := jm_c_spec hc1
  dsimp only at hl1 g2
  subst hl1
  split at hs
  · rename_i z r
    obtain ⟨hv, hst⟩ := List.forall_mem_cons.mp hst
    refine lv_istore hx hb hdc hL.has hc2 rfl (fun ls' hl' => ?_)
    have kk := hs e1 g1 H locs cells slots ls' hS (jm_LR.store hv (fun k v h => (hL.2.2 k v h).2) hl') hst
    rw [g2] at kk
    exact kk
  · exact hs.elim

set_option maxHeartbeats 1000000 in
theorem jm_t_istore_n {k : Fin 4} (hC : jm_Cx p R s m meth c D aC ba ex X n d B n0 t0) {i : Nat} {pc len : Nat} {res : List Int} {L : jm_L} {st : List jm_V} {h : jm_H} (he : P[i]? = some (pc, .istore_n k, len, res)) (hdc : decode (jm_co n) pc = .ok (.istore_n k, len)) (hck : jm_chk n P i (pc, .istore_n k, len, res) = true)
    (hs : jm_sem X C B Q (jm_It p l e R s m args below meth c D aC ba ex P n B n0 t0 Qz) (pc, .istore_n k, len, res) i L st h) : jm_It p l e R s m args below meth c D aC ba ex P n B n0 t0 Qz i L st h := by
  intro e' he' H locs cells slots ls hS hL hst
  cases he.symm.trans he'
  obtain ⟨hx, hb, hml, hown, hE, hXt, hsz, hin, hfr, hlo, hBc, hBs⟩ := hC
  simp only [jm_chk, Bool.and_eq_true, decide_eq_true_eq] at hck
  simp only [jm_sem] at hs
  obtain ⟨hc1, hc2⟩ := hck
  obtain ⟨hl1, e1, g1, g2⟩ := jm_c_spec hc1
  dsimp only at hl1 g2
  subst hl1
  split at hs
  · rename_i z r
    obtain ⟨hv, hst⟩ := List.forall_mem_cons.mp hst
    refine lv_istore_n hx hb hdc rfl hL.has hc2 rfl (fun ls' hl' => ?_)
    have kk := hs e1 g1 H locs cells slots ls' hS (jm_LR.store hv (fun k v h => (hL.2.2 k v h).2) hl') hst
    rw [g2] at kk
    exact kk
  · exact hs.elim

set_option maxHeartbeats 1000000 in
theorem jm_t_lstore {k : Nat} (hC : jm_Cx p R s m meth c D aC ba ex X n d B n0 t0) {i : Nat} {pc len : Nat} {res : List Int} {L : jm_L} {st : List jm_V} {h : jm_H} (he : P[i]? = some (pc, .lstore k, len, res)) (hdc : decode (jm_co n) pc = .ok (.lstore k, len)) (hck : jm_chk n P i (pc, .lstore k, len, res) = true)
    (hs : jm_sem X C B Q (jm_It p l e R s m args below meth c D aC ba ex P n B n0 t0 Qz) (pc, .lstore k, len, res) i L st h) : jm_It p l e R s m args below meth c D aC ba ex P n B n0 t0 Qz i L st h := by
  intro e' he' H locs cells slots ls hS hL hst
  cases he.symm.trans he'
  obtain ⟨hx, hb, hml, hown, hE, hXt, hsz, hin, hfr, hlo, hBc, hBs⟩ := hC
  simp only [jm_chk, Bool.and_eq_true, decide_eq_true_eq] at hck
  simp only [jm_sem] at hs
  obtain ⟨hc1, hc2⟩ := hck
  obtain ⟨hl1, e1, g1, g2⟩ := jm_c_spec hc1
  dsimp only at hl1 g2
  subst hl1
  split at hs
  · rename_i z r
    obtain ⟨hv, hst⟩ := List.forall_mem_cons.mp hst
    refine lv_lstore hx hb hdc hL.has hc2 rfl (fun ls' hl' => ?_)
    have kk := hs e1 g1 H locs cells slots ls' hS (jm_LR.store2 hv (fun k v h => (hL.2.2 k v h).2) hl') hst
    rw [g2] at kk
    exact kk
  · exact hs.elim

set_option maxHeartbeats 1000000 in
theorem jm_t_lstore_n {k : Fin 4} (hC : jm_Cx p R s m meth c D aC ba ex X n d B n0 t0) {i : Nat} {pc len : Nat} {res : List Int} {L : jm_L} {st : List jm_V} {h : jm_H} (he : P[i]? = some (pc, .lstore_n k, len, res)) (hdc : decode (jm_co n) pc = .ok (.lstore_n k, len)) (hck : jm_chk n P i (pc, .lstore_n k, len, res) = true)
    (hs : jm_sem X C B Q (jm_It p l e R s m args below meth c D aC ba ex P n B n0 t0 Qz) (pc, .lstore_n k, len, res) i L st h) : jm_It p l e R s m args below meth c D aC ba ex P n B n0 t0 Qz i L st h := by
  intro e' he' H locs cells slots ls hS hL hst
  cases he.symm.trans he'
  obtain ⟨hx, hb, hml, hown, hE, hXt, hsz, hin, hfr, hlo, hBc, hBs⟩ := hC
  simp only [jm_chk, Bool.and_eq_true, decide_eq_true_eq] at hck
  simp only [jm_sem] at hs
  obtain ⟨hc1, hc2⟩ := hck
  obtain ⟨hl1, e1, g1, g2⟩ := jm_c_spec hc1
  dsimp only at hl1 g2
  subst hl1
  split at hs
  · rename_i z r
    obtain ⟨hv, hst⟩ := List.forall_mem_cons.mp hst
    refine lv_lstore_n hx hb hdc rfl hL.has hc2 rfl (fun ls' hl' => ?_)
    have kk := hs e1 g1 H locs cells slots ls' hS (jm_LR.store2 hv (fun k v h => (hL.2.2 k v h).2) hl') hst
    rw [g2] at kk
    exact kk
  · exact hs.elim

set_option maxHeartbeats 1000000 in
theorem jm_t_astore {k : Nat} (hC : jm_Cx p R s m meth c D aC ba ex X n d B n0 t0) {i : Nat} {pc len : Nat} {res : List Int} {L : jm_L} {st : List jm_V} {h : jm_H} (he : P[i]? = some (pc, .astore k, len, res)) (hdc : decode (jm_co n) pc = .ok (.astore k, len)) (hck : jm_chk n P i (pc, .astore k, len, res) = true)
    (hs : jm_sem X C B Q (jm_It p l e R s m args below meth c D aC ba ex P n B n0 t0 Qz) (pc, .astore k, len, res) i L st h) : jm_It p l e R s m args below meth c D aC ba ex P n B n0 t0 Qz i L st h := by
  intro e' he' H locs cells slots ls hS hL hst
  cases he.symm.trans he'
  obtain ⟨hx, hb, hml, hown, hE, hXt, hsz, hin, hfr, hlo, hBc, hBs⟩ := hC
  simp only [jm_chk, Bool.and_eq_true, decide_eq_true_eq] at hck
  simp only [jm_sem] at hs
  obtain ⟨hc1, hc2⟩ := hck
  obtain ⟨hl1, e1, g1, g2⟩ := jm_c_spec hc1
  dsimp only at hl1 g2
  subst hl1
  split at hs
  · rename_i z r
    obtain ⟨hv, hst⟩ := List.forall_mem_cons.mp hst
    obtain ⟨hne, hs⟩ := hs
    obtain ⟨x, hx2⟩ := jm_rv_ref (ba := ba) (ex := ex) hne
    rw [List.map_cons, hx2]
    refine lv_astore hx hb hdc hL.has hc2 rfl (fun ls' hl' => ?_)
    rw [← hx2] at hl'
    have kk := hs e1 g1 H locs cells slots ls' hS (jm_LR.store hv (fun k v h => (hL.2.2 k v h).2) hl') hst
    rw [g2] at kk
    exact kk
  · exact hs.elim

set_option maxHeartbeats 1000000 in
theorem jm_t_astore_n {k : Fin 4} (hC : jm_Cx p R s m meth c D aC ba ex X n d B n0 t0) {i : Nat} {pc len : Nat} {res : List Int} {L : jm_L} {st : List jm_V} {h : jm_H} (he : P[i]? = some (pc, .astore_n k, len, res)) (hdc : decode (jm_co n) pc = .ok (.astore_n k, len)) (hck : jm_chk n P i (pc, .astore_n k, len, res) = true)
    (hs : jm_sem X C B Q (jm_It p l e R s m args below meth c D aC ba ex P n B n0 t0 Qz) (pc, .astore_n k, len, res) i L st h) : jm_It p l e R s m args below meth c D aC ba ex P n B n0 t0 Qz i L st h := by
  intro e' he' H locs cells slots ls hS hL hst
  cases he.symm.trans he'
  obtain ⟨hx, hb, hml, hown, hE, hXt, hsz, hin, hfr, hlo, hBc, hBs⟩ := hC
  simp only [jm_chk, Bool.and_eq_true, decide_eq_true_eq] at hck
  simp only [jm_sem] at hs
  obtain ⟨hc1, hc2⟩ := hck
  obtain ⟨hl1, e1, g1, g2⟩ := jm_c_spec hc1
  dsimp only at hl1 g2
  subst hl1
  split at hs
  · rename_i z r
    obtain ⟨hv, hst⟩ := List.forall_mem_cons.mp hst
    obtain ⟨hne, hs⟩ := hs
    obtain ⟨x, hx2⟩ := jm_rv_ref (ba := ba) (ex := ex) hne
    rw [List.map_cons, hx2]
    refine lv_astore_n hx hb hdc rfl hL.has hc2 rfl (fun ls' hl' => ?_)
    rw [← hx2] at hl'
    have kk := hs e1 g1 H locs cells slots ls' hS (jm_LR.store hv (fun k v h => (hL.2.2 k v h).2) hl') hst
    rw [g2] at kk
    exact kk
  · exact hs.elim

set_option maxHeartbeats 1000000 in
theorem jm_t_iinc {k : Nat} {v : Int} (hC : jm_Cx p R s m meth c D aC ba ex X n d B n0 t0) {i : Nat} {pc len : Nat} {res : List Int} {L : jm_L} {st : List jm_V} {h : jm_H} (he : P[i]? = some (pc, .iinc k v, len, res)) (hdc : decode (jm_co n) pc = .ok (.iinc k v, len)) (hck : jm_chk n P i (pc, .iinc k v, len, res) = true)
    (hs : jm_sem X C B Q (jm_It p l e R s m args below meth c D aC ba ex P n B n0 t0 Qz) (pc, .iinc k v, len, res) i L st h) : jm_It p l e R s m args below meth c D aC ba ex P n B n0 t0 Qz i L st h := by
  intro e' he' H locs cells slots ls hS hL hst
  cases he.symm.trans he'
  obtain ⟨hx, hb, hml, hown, hE, hXt, hsz, hin, hfr, hlo, hBc, hBs⟩ := hC
  simp only [jm_chk, Bool.and_eq_true, decide_eq_true_eq] at hck
  simp only [jm_sem] at hs
  obtain ⟨hc1, hc2⟩ := hck
  obtain ⟨hl1, e1, g1, g2⟩ := jm_c_spec hc1
  dsimp only at hl1 g2
  subst hl1
  split at hs
  · rename_i z hz
    obtain ⟨hr, hs⟩ := hs
    obtain ⟨a, ha⟩ := List.getElem?_of_mem (jm_as_mem (ba := ba) (ex := ex) (q := (k, jm_rv ba ex (.inl z))).mpr ⟨_, hz, rfl⟩)
    refine lv_iinc hx hb hdc hL.has ha rfl hc2 rfl (fun ls' hl' => ?_)
    rw [← Int32.ofInt_add] at hl'
    have kk := hs e1 g1 H locs cells slots ls' hS (jm_LR.store (v := .inl (z + v)) hr (fun k v h => (hL.2.2 k v h).2) hl') hst
    rw [g2] at kk
    exact kk
  · exact hs.elim

set_option maxHeartbeats 1000000 in
theorem jm_t_iadd (hC : jm_Cx p R s m meth c D aC ba ex X n d B n0 t0) {i : Nat} {pc len : Nat} {res : List Int} {L : jm_L} {st : List jm_V} {h : jm_H} (he : P[i]? = some (pc, .iadd, len, res)) (hdc : decode (jm_co n) pc = .ok (.iadd, len)) (hck : jm_chk n P i (pc, .iadd, len, res) = true)
    (hs : jm_sem X C B Q (jm_It p l e R s m args below meth c D aC ba ex P n B n0 t0 Qz) (pc, .iadd, len, res) i L st h) : jm_It p l e R s m args below meth c D aC ba ex P n B n0 t0 Qz i L st h := by
  intro e' he' H locs cells slots ls hS hL hst
  cases he.symm.trans he'
  obtain ⟨hx, hb, hml, hown, hE, hXt, hsz, hin, hfr, hlo, hBc, hBs⟩ := hC
  simp only [jm_chk] at hck
  simp only [jm_sem] at hs
  obtain ⟨hl1, e1, g1, g2⟩ := jm_c_spec hck
  dsimp only at hl1 g2
  subst hl1
  split at hs
  · rename_i b a r
    obtain ⟨vb, hst⟩ := List.forall_mem_cons.mp hst
    obtain ⟨va, hst⟩ := List.forall_mem_cons.mp hst
    obtain ⟨hr, hs⟩ := hs
    have kk := hs e1 g1 H locs cells slots ls hS hL (List.forall_mem_cons.mpr ⟨hr, hst⟩)
    rw [g2] at kk
    refine lv_iadd hx hb hdc ?_
    rw [← Int32.ofInt_add]
    exact kk
  · exact hs.elim

set_option maxHeartbeats 1000000 in
theorem jm_t_isub (hC : jm_Cx p R s m meth c D aC ba ex X n d B n0 t0) {i : Nat} {pc len : Nat} {res : List Int} {L : jm_L} {st : List jm_V} {h : jm_H} (he : P[i]? = some (pc, .isub, len, res)) (hdc : decode (jm_co n) pc = .ok (.isub, len)) (hck : jm_chk n P i (pc, .isub, len, res) = true)
    (hs : jm_sem X C B Q (jm_It p l e R s m args below meth c D aC ba ex P n B n0 t0 Qz) (pc, .isub, len, res) i L st h) : jm_It p l e R s m args below meth c D aC ba ex P n B n0 t0 Qz i L st h := by
  intro e' he' H locs cells slots ls hS hL hst
  cases he.symm.trans he'
  obtain ⟨hx, hb, hml, hown, hE, hXt, hsz, hin, hfr, hlo, hBc, hBs⟩ := hC
  simp only [jm_chk] at hck
  simp only [jm_sem] at hs
  obtain ⟨hl1, e1, g1, g2⟩ := jm_c_spec hck
  dsimp only at hl1 g2
  subst hl1
  split at hs
  · rename_i b a r
    obtain ⟨vb, hst⟩ := List.forall_mem_cons.mp hst
    obtain ⟨va, hst⟩ := List.forall_mem_cons.mp hst
    obtain ⟨hr, hs⟩ := hs
    have kk := hs e1 g1 H locs cells slots ls hS hL (List.forall_mem_cons.mpr ⟨hr, hst⟩)
    rw [g2] at kk
    refine lv_isub hx hb hdc ?_
    rw [← Int32.ofInt_sub]
    exact kk
  · exact hs.elim

set_option maxHeartbeats 1000000 in
theorem jm_t_imul (hC : jm_Cx p R s m meth c D aC ba ex X n d B n0 t0) {i : Nat} {pc len : Nat} {res : List Int} {L : jm_L} {st : List jm_V} {h : jm_H} (he : P[i]? = some (pc, .imul, len, res)) (hdc : decode (jm_co n) pc = .ok (.imul, len)) (hck : jm_chk n P i (pc, .imul, len, res) = true)
    (hs : jm_sem X C B Q (jm_It p l e R s m args below meth c D aC ba ex P n B n0 t0 Qz) (pc, .imul, len, res) i L st h) : jm_It p l e R s m args below meth c D aC ba ex P n B n0 t0 Qz i L st h := by
  intro e' he' H locs cells slots ls hS hL hst
  cases he.symm.trans he'
  obtain ⟨hx, hb, hml, hown, hE, hXt, hsz, hin, hfr, hlo, hBc, hBs⟩ := hC
  simp only [jm_chk] at hck
  simp only [jm_sem] at hs
  obtain ⟨hl1, e1, g1, g2⟩ := jm_c_spec hck
  dsimp only at hl1 g2
  subst hl1
  split at hs
  · rename_i b a r
    obtain ⟨vb, hst⟩ := List.forall_mem_cons.mp hst
    obtain ⟨va, hst⟩ := List.forall_mem_cons.mp hst
    obtain ⟨hr, hs⟩ := hs
    have kk := hs e1 g1 H locs cells slots ls hS hL (List.forall_mem_cons.mpr ⟨hr, hst⟩)
    rw [g2] at kk
    refine lv_imul hx hb hdc ?_
    rw [← Int32.ofInt_mul]
    exact kk
  · exact hs.elim

set_option maxHeartbeats 1000000 in
theorem jm_t_idiv (hC : jm_Cx p R s m meth c D aC ba ex X n d B n0 t0) {i : Nat} {pc len : Nat} {res : List Int} {L : jm_L} {st : List jm_V} {h : jm_H} (he : P[i]? = some (pc, .idiv, len, res)) (hdc : decode (jm_co n) pc = .ok (.idiv, len)) (hck : jm_chk n P i (pc, .idiv, len, res) = true)
    (hs : jm_sem X C B Q (jm_It p l e R s m args below meth c D aC ba ex P n B n0 t0 Qz) (pc, .idiv, len, res) i L st h) : jm_It p l e R s m args below meth c D aC ba ex P n B n0 t0 Qz i L st h := by
  intro e' he' H locs cells slots ls hS hL hst
  cases he.symm.trans he'
  obtain ⟨hx, hb, hml, hown, hE, hXt, hsz, hin, hfr, hlo, hBc, hBs⟩ := hC
  simp only [jm_chk] at hck
  simp only [jm_sem] at hs
  obtain ⟨hl1, e1, g1, g2⟩ := jm_c_spec hck
  dsimp only at hl1 g2
  subst hl1
  split at hs
  · rename_i b a r
    obtain ⟨vb, hst⟩ := List.forall_mem_cons.mp hst
    obtain ⟨va, hst⟩ := List.forall_mem_cons.mp hst
    obtain ⟨hr, hs⟩ := hs
    have kk := hs e1 g1 H locs cells slots ls hS hL (List.forall_mem_cons.mpr ⟨jm_rdiv va hr.1 hr.2, hst⟩)
    rw [g2] at kk
    refine lv_idiv hx hb hdc (fun q => by have := (jm_eq vb jm_r0).mp q; omega) ?_
    rw [jm_div va vb hr.1 hr.2]
    exact kk
  · exact hs.elim

set_option maxHeartbeats 1000000 in
theorem jm_t_irem (hC : jm_Cx p R s m meth c D aC ba ex X n d B n0 t0) {i : Nat} {pc len : Nat} {res : List Int} {L : jm_L} {st : List jm_V} {h : jm_H} (he : P[i]? = some (pc, .irem, len, res)) (hdc : decode (jm_co n) pc = .ok (.irem, len)) (hck : jm_chk n P i (pc, .irem, len, res) = true)
    (hs : jm_sem X C B Q (jm_It p l e R s m args below meth c D aC ba ex P n B n0 t0 Qz) (pc, .irem, len, res) i L st h) : jm_It p l e R s m args below meth c D aC ba ex P n B n0 t0 Qz i L st h := by
  intro e' he' H locs cells slots ls hS hL hst
  cases he.symm.trans he'
  obtain ⟨hx, hb, hml, hown, hE, hXt, hsz, hin, hfr, hlo, hBc, hBs⟩ := hC
  simp only [jm_chk] at hck
  simp only [jm_sem] at hs
  obtain ⟨hl1, e1, g1, g2⟩ := jm_c_spec hck
  dsimp only at hl1 g2
  subst hl1
  split at hs
  · rename_i b a r
    obtain ⟨vb, hst⟩ := List.forall_mem_cons.mp hst
    obtain ⟨va, hst⟩ := List.forall_mem_cons.mp hst
    obtain ⟨hr, hs⟩ := hs
    have kk := hs e1 g1 H locs cells slots ls hS hL (List.forall_mem_cons.mpr ⟨jm_rmod vb hr.2, hst⟩)
    rw [g2] at kk
    refine lv_irem hx hb hdc (fun q => by have := (jm_eq vb jm_r0).mp q; omega) ?_
    rw [jm_mod va vb hr.1 hr.2]
    exact kk
  · exact hs.elim

set_option maxHeartbeats 1000000 in
theorem jm_t_iand (hC : jm_Cx p R s m meth c D aC ba ex X n d B n0 t0) {i : Nat} {pc len : Nat} {res : List Int} {L : jm_L} {st : List jm_V} {h : jm_H} (he : P[i]? = some (pc, .iand, len, res)) (hdc : decode (jm_co n) pc = .ok (.iand, len)) (hck : jm_chk n P i (pc, .iand, len, res) = true)
    (hs : jm_sem X C B Q (jm_It p l e R s m args below meth c D aC ba ex P n B n0 t0 Qz) (pc, .iand, len, res) i L st h) : jm_It p l e R s m args below meth c D aC ba ex P n B n0 t0 Qz i L st h := by
  intro e' he' H locs cells slots ls hS hL hst
  cases he.symm.trans he'
  obtain ⟨hx, hb, hml, hown, hE, hXt, hsz, hin, hfr, hlo, hBc, hBs⟩ := hC
  simp only [jm_chk] at hck
  simp only [jm_sem] at hs
  obtain ⟨hl1, e1, g1, g2⟩ := jm_c_spec hck
  dsimp only at hl1 g2
  subst hl1
  split at hs
  · rename_i b a r
    obtain ⟨vb, hst⟩ := List.forall_mem_cons.mp hst
    obtain ⟨va, hst⟩ := List.forall_mem_cons.mp hst
    have kk := hs e1 g1 H locs cells slots ls hS hL (List.forall_mem_cons.mpr ⟨jm_rI _, hst⟩)
    rw [g2] at kk
    refine lv_iand hx hb hdc ?_
    simp only [List.map_cons, jm_rv, jm_and, Int32.ofInt_toInt] at kk
    exact kk
  · exact hs.elim

set_option maxHeartbeats 1000000 in
theorem jm_t_ior (hC : jm_Cx p R s m meth c D aC ba ex X n d B n0 t0) {i : Nat} {pc len : Nat} {res : List Int} {L : jm_L} {st : List jm_V} {h : jm_H} (he : P[i]? = some (pc, .ior, len, res)) (hdc : decode (jm_co n) pc = .ok (.ior, len)) (hck : jm_chk n P i (pc, .ior, len, res) = true)
    (hs : jm_sem X C B Q (jm_It p l e R s m args below meth c D aC ba ex P n B n0 t0 Qz) (pc, .ior, len, res) i L st h) : jm_It p l e R s m args below meth c D aC ba ex P n B n0 t0 Qz i L st h := by
  intro e' he' H locs cells slots ls hS hL hst
  cases he.symm.trans he'
  obtain ⟨hx, hb, hml, hown, hE, hXt, hsz, hin, hfr, hlo, hBc, hBs⟩ := hC
  simp only [jm_chk] at hck
  simp only [jm_sem] at hs
  obtain ⟨hl1, e1, g1, g2⟩ := jm_c_spec hck
  dsimp only at hl1 g2
  subst hl1
  split at hs
  · rename_i b a r
    obtain ⟨vb, hst⟩ := List.forall_mem_cons.mp hst
    obtain ⟨va, hst⟩ := List.forall_mem_cons.mp hst
    have kk := hs e1 g1 H locs cells slots ls hS hL (List.forall_mem_cons.mpr ⟨jm_rI _, hst⟩)
    rw [g2] at kk
    refine lv_ior hx hb hdc ?_
    simp only [List.map_cons, jm_rv, jm_or, Int32.ofInt_toInt] at kk
    exact kk
  · exact hs.elim

set_option maxHeartbeats 1000000 in
theorem jm_t_ixor (hC : jm_Cx p R s m meth c D aC ba ex X n d B n0 t0) {i : Nat} {pc len : Nat} {res : List Int} {L : jm_L} {st : List jm_V} {h : jm_H} (he : P[i]? = some (pc, .ixor, len, res)) (hdc : decode (jm_co n) pc = .ok (.ixor, len)) (hck : jm_chk n P i (pc, .ixor, len, res) = true)
    (hs : jm_sem X C B Q (jm_It p l e R s m args below meth c D aC ba ex P n B n0 t0 Qz) (pc, .ixor, len, res) i L st h) : jm_It p l e R s m args below meth c D aC ba ex P n B n0 t0 Qz i L st h := by
  intro e' he' H locs cells slots ls hS hL hst
  cases he.symm.trans he'
  obtain ⟨hx, hb, hml, hown, hE, hXt, hsz, hin, hfr, hlo, hBc, hBs⟩ := hC
  simp only [jm_chk] at hck
  simp only [jm_sem] at hs
  obtain ⟨hl1, e1, g1, g2⟩ := jm_c_spec hck
  dsimp only at hl1 g2
  subst hl1
  split at hs
  · rename_i b a r
    obtain ⟨vb, hst⟩ := List.forall_mem_cons.mp hst
    obtain ⟨va, hst⟩ := List.forall_mem_cons.mp hst
    have kk := hs e1 g1 H locs cells slots ls hS hL (List.forall_mem_cons.mpr ⟨jm_rI _, hst⟩)
    rw [g2] at kk
    refine lv_ixor hx hb hdc ?_
    simp only [List.map_cons, jm_rv, jm_xor, Int32.ofInt_toInt] at kk
    exact kk
  · exact hs.elim

set_option maxHeartbeats 1000000 in
theorem jm_t_ishl (hC : jm_Cx p R s m meth c D aC ba ex X n d B n0 t0) {i : Nat} {pc len : Nat} {res : List Int} {L : jm_L} {st : List jm_V} {h : jm_H} (he : P[i]? = some (pc, .ishl, len, res)) (hdc : decode (jm_co n) pc = .ok (.ishl, len)) (hck : jm_chk n P i (pc, .ishl, len, res) = true)
    (hs : jm_sem X C B Q (jm_It p l e R s m args below meth c D aC ba ex P n B n0 t0 Qz) (pc, .ishl, len, res) i L st h) : jm_It p l e R s m args below meth c D aC ba ex P n B n0 t0 Qz i L st h := by
  intro e' he' H locs cells slots ls hS hL hst
  cases he.symm.trans he'
  obtain ⟨hx, hb, hml, hown, hE, hXt, hsz, hin, hfr, hlo, hBc, hBs⟩ := hC
  simp only [jm_chk] at hck
  simp only [jm_sem] at hs
  obtain ⟨hl1, e1, g1, g2⟩ := jm_c_spec hck
  dsimp only at hl1 g2
  subst hl1
  split at hs
  · rename_i b a r
    obtain ⟨vb, hst⟩ := List.forall_mem_cons.mp hst
    obtain ⟨va, hst⟩ := List.forall_mem_cons.mp hst
    have kk := hs e1 g1 H locs cells slots ls hS hL (List.forall_mem_cons.mpr ⟨jm_rI _, hst⟩)
    rw [g2] at kk
    refine lv_ishl hx hb hdc ?_
    simp only [List.map_cons, jm_rv, jm_shl, Int32.ofInt_toInt] at kk
    exact kk
  · exact hs.elim

set_option maxHeartbeats 1000000 in
theorem jm_t_ishr (hC : jm_Cx p R s m meth c D aC ba ex X n d B n0 t0) {i : Nat} {pc len : Nat} {res : List Int} {L : jm_L} {st : List jm_V} {h : jm_H} (he : P[i]? = some (pc, .ishr, len, res)) (hdc : decode (jm_co n) pc = .ok (.ishr, len)) (hck : jm_chk n P i (pc, .ishr, len, res) = true)
    (hs : jm_sem X C B Q (jm_It p l e R s m args below meth c D aC ba ex P n B n0 t0 Qz) (pc, .ishr, len, res) i L st h) : jm_It p l e R s m args below meth c D aC ba ex P n B n0 t0 Qz i L st h := by
  intro e' he' H locs cells slots ls hS hL hst
  cases he.symm.trans he'
  obtain ⟨hx, hb, hml, hown, hE, hXt, hsz, hin, hfr, hlo, hBc, hBs⟩ := hC
  simp only [jm_chk] at hck
  simp only [jm_sem] at hs
  obtain ⟨hl1, e1, g1, g2⟩ := jm_c_spec hck
  dsimp only at hl1 g2
  subst hl1
  split at hs
  · rename_i b a r
    obtain ⟨vb, hst⟩ := List.forall_mem_cons.mp hst
    obtain ⟨va, hst⟩ := List.forall_mem_cons.mp hst
    have kk := hs e1 g1 H locs cells slots ls hS hL (List.forall_mem_cons.mpr ⟨jm_rI _, hst⟩)
    rw [g2] at kk
    refine lv_ishr hx hb hdc ?_
    simp only [List.map_cons, jm_rv, jm_shr, Int32.ofInt_toInt] at kk
    exact kk
  · exact hs.elim

set_option maxHeartbeats 1000000 in
theorem jm_t_iushr (hC : jm_Cx p R s m meth c D aC ba ex X n d B n0 t0) {i : Nat} {pc len : Nat} {res : List Int} {L : jm_L} {st : List jm_V} {h : jm_H} (he : P[i]? = some (pc, .iushr, len, res)) (hdc : decode (jm_co n) pc = .ok (.iushr, len)) (hck : jm_chk n P i (pc, .iushr, len, res) = true)
    (hs : jm_sem X C B Q (jm_It p l e R s m args below meth c D aC ba ex P n B n0 t0 Qz) (pc, .iushr, len, res) i L st h) : jm_It p l e R s m args below meth c D aC ba ex P n B n0 t0 Qz i L st h := by
  intro e' he' H locs cells slots ls hS hL hst
  cases he.symm.trans he'
  obtain ⟨hx, hb, hml, hown, hE, hXt, hsz, hin, hfr, hlo, hBc, hBs⟩ := hC
  simp only [jm_chk] at hck
  simp only [jm_sem] at hs
  obtain ⟨hl1, e1, g1, g2⟩ := jm_c_spec hck
  dsimp only at hl1 g2
  subst hl1
  split at hs
  · rename_i b a r
    obtain ⟨vb, hst⟩ := List.forall_mem_cons.mp hst
    obtain ⟨va, hst⟩ := List.forall_mem_cons.mp hst
    have kk := hs e1 g1 H locs cells slots ls hS hL (List.forall_mem_cons.mpr ⟨jm_rI _, hst⟩)
    rw [g2] at kk
    refine lv_iushr hx hb hdc rfl ?_
    simp only [List.map_cons, jm_rv, jm_ushr, Int32.ofInt_toInt] at kk
    exact kk
  · exact hs.elim

set_option maxHeartbeats 1000000 in
theorem jm_t_ladd (hC : jm_Cx p R s m meth c D aC ba ex X n d B n0 t0) {i : Nat} {pc len : Nat} {res : List Int} {L : jm_L} {st : List jm_V} {h : jm_H} (he : P[i]? = some (pc, .ladd, len, res)) (hdc : decode (jm_co n) pc = .ok (.ladd, len)) (hck : jm_chk n P i (pc, .ladd, len, res) = true)
    (hs : jm_sem X C B Q (jm_It p l e R s m args below meth c D aC ba ex P n B n0 t0 Qz) (pc, .ladd, len, res) i L st h) : jm_It p l e R s m args below meth c D aC ba ex P n B n0 t0 Qz i L st h := by
  intro e' he' H locs cells slots ls hS hL hst
  cases he.symm.trans he'
  obtain ⟨hx, hb, hml, hown, hE, hXt, hsz, hin, hfr, hlo, hBc, hBs⟩ := hC
  simp only [jm_chk] at hck
  simp only [jm_sem] at hs
  obtain ⟨hl1, e1, g1, g2⟩ := jm_c_spec hck
  dsimp only at hl1 g2
  subst hl1
  split at hs
  · rename_i b a r
    obtain ⟨vb, hst⟩ := List.forall_mem_cons.mp hst
    obtain ⟨va, hst⟩ := List.forall_mem_cons.mp hst
    obtain ⟨hr, hs⟩ := hs
    have kk := hs e1 g1 H locs cells slots ls hS hL (List.forall_mem_cons.mpr ⟨hr, hst⟩)
    rw [g2] at kk
    refine lv_ladd hx hb hdc ?_
    rw [← Int64.ofInt_add]
    exact kk
  · exact hs.elim

set_option maxHeartbeats 1000000 in
theorem jm_t_lmul (hC : jm_Cx p R s m meth c D aC ba ex X n d B n0 t0) {i : Nat} {pc len : Nat} {res : List Int} {L : jm_L} {st : List jm_V} {h : jm_H} (he : P[i]? = some (pc, .lmul, len, res)) (hdc : decode (jm_co n) pc = .ok (.lmul, len)) (hck : jm_chk n P i (pc, .lmul, len, res) = true)
    (hs : jm_sem X C B Q (jm_It p l e R s m args below meth c D aC ba ex P n B n0 t0 Qz) (pc, .lmul, len, res) i L st h) : jm_It p l e R s m args below meth c D aC ba ex P n B n0 t0 Qz i L st h := by
  intro e' he' H locs cells slots ls hS hL hst
  cases he.symm.trans he'
  obtain ⟨hx, hb, hml, hown, hE, hXt, hsz, hin, hfr, hlo, hBc, hBs⟩ := hC
  simp only [jm_chk] at hck
  simp only [jm_sem] at hs
  obtain ⟨hl1, e1, g1, g2⟩ := jm_c_spec hck
  dsimp only at hl1 g2
  subst hl1
  split at hs
  · rename_i b a r
    obtain ⟨vb, hst⟩ := List.forall_mem_cons.mp hst
    obtain ⟨va, hst⟩ := List.forall_mem_cons.mp hst
    obtain ⟨hr, hs⟩ := hs
    have kk := hs e1 g1 H locs cells slots ls hS hL (List.forall_mem_cons.mpr ⟨hr, hst⟩)
    rw [g2] at kk
    refine lv_lmul hx hb hdc ?_
    rw [← Int64.ofInt_mul]
    exact kk
  · exact hs.elim

set_option maxHeartbeats 1000000 in
theorem jm_t_lrem (hC : jm_Cx p R s m meth c D aC ba ex X n d B n0 t0) {i : Nat} {pc len : Nat} {res : List Int} {L : jm_L} {st : List jm_V} {h : jm_H} (he : P[i]? = some (pc, .lrem, len, res)) (hdc : decode (jm_co n) pc = .ok (.lrem, len)) (hck : jm_chk n P i (pc, .lrem, len, res) = true)
    (hs : jm_sem X C B Q (jm_It p l e R s m args below meth c D aC ba ex P n B n0 t0 Qz) (pc, .lrem, len, res) i L st h) : jm_It p l e R s m args below meth c D aC ba ex P n B n0 t0 Qz i L st h := by
  intro e' he' H locs cells slots ls hS hL hst
  cases he.symm.trans he'
  obtain ⟨hx, hb, hml, hown, hE, hXt, hsz, hin, hfr, hlo, hBc, hBs⟩ := hC
  simp only [jm_chk] at hck
  simp only [jm_sem] at hs
  obtain ⟨hl1, e1, g1, g2⟩ := jm_c_spec hck
  dsimp only at hl1 g2
  subst hl1
  split at hs
  · rename_i b a r
    obtain ⟨vb, hst⟩ := List.forall_mem_cons.mp hst
    obtain ⟨va, hst⟩ := List.forall_mem_cons.mp hst
    obtain ⟨hr, hs⟩ := hs
    have kk := hs e1 g1 H locs cells slots ls hS hL (List.forall_mem_cons.mpr ⟨jm_rlmod vb hr.2, hst⟩)
    rw [g2] at kk
    have hne : ¬ Int64.ofInt b = 0 := by
      intro q
      have h9 : (Int64.ofInt b).toInt = 0 := by rw [q]; rfl
      rw [jm_tl vb] at h9
      omega
    refine lv_lrem hx hb hdc hne ?_
    rw [jm_lmod va vb hr.1 hr.2]
    exact kk
  · exact hs.elim

set_option maxHeartbeats 1000000 in
theorem jm_t_lcmp (hC : jm_Cx p R s m meth c D aC ba ex X n d B n0 t0) {i : Nat} {pc len : Nat} {res : List Int} {L : jm_L} {st : List jm_V} {h : jm_H} (he : P[i]? = some (pc, .lcmp, len, res)) (hdc : decode (jm_co n) pc = .ok (.lcmp, len)) (hck : jm_chk n P i (pc, .lcmp, len, res) = true)
    (hs : jm_sem X C B Q (jm_It p l e R s m args below meth c D aC ba ex P n B n0 t0 Qz) (pc, .lcmp, len, res) i L st h) : jm_It p l e R s m args below meth c D aC ba ex P n B n0 t0 Qz i L st h := by
  intro e' he' H locs cells slots ls hS hL hst
  cases he.symm.trans he'
  obtain ⟨hx, hb, hml, hown, hE, hXt, hsz, hin, hfr, hlo, hBc, hBs⟩ := hC
  simp only [jm_chk] at hck
  simp only [jm_sem] at hs
  obtain ⟨hl1, e1, g1, g2⟩ := jm_c_spec hck
  dsimp only at hl1 g2
  subst hl1
  split at hs
  · rename_i b a r
    obtain ⟨vb, hst⟩ := List.forall_mem_cons.mp hst
    obtain ⟨va, hst⟩ := List.forall_mem_cons.mp hst
    have kk := hs e1 g1 H locs cells slots ls hS hL (List.forall_mem_cons.mpr ⟨jm_rc a b, hst⟩)
    rw [g2] at kk
    refine W.lcmp hx hb hdc ?_
    rw [jm_lc va vb]
    exact kk
  · exact hs.elim

set_option maxHeartbeats 1000000 in
theorem jm_t_ineg (hC : jm_Cx p R s m meth c D aC ba ex X n d B n0 t0) {i : Nat} {pc len : Nat} {res : List Int} {L : jm_L} {st : List jm_V} {h : jm_H} (he : P[i]? = some (pc, .ineg, len, res)) (hdc : decode (jm_co n) pc = .ok (.ineg, len)) (hck : jm_chk n P i (pc, .ineg, len, res) = true)
    (hs : jm_sem X C B Q (jm_It p l e R s m args below meth c D aC ba ex P n B n0 t0 Qz) (pc, .ineg, len, res) i L st h) : jm_It p l e R s m args below meth c D aC ba ex P n B n0 t0 Qz i L st h := by
  intro e' he' H locs cells slots ls hS hL hst
  cases he.symm.trans he'
  obtain ⟨hx, hb, hml, hown, hE, hXt, hsz, hin, hfr, hlo, hBc, hBs⟩ := hC
  simp only [jm_chk] at hck
  simp only [jm_sem] at hs
  obtain ⟨hl1, e1, g1, g2⟩ := jm_c_spec hck
  dsimp only at hl1 g2
  subst hl1
  split at hs
  · rename_i a r
    obtain ⟨va, hst⟩ := List.forall_mem_cons.mp hst
    obtain ⟨hr, hs⟩ := hs
    have kk := hs e1 g1 H locs cells slots ls hS hL (List.forall_mem_cons.mpr ⟨hr, hst⟩)
    rw [g2] at kk
    refine lv_ineg hx hb hdc ?_
    rw [Int32.neg_ofInt]
    exact kk
  · exact hs.elim

set_option maxHeartbeats 1000000 in
theorem jm_t_i2l (hC : jm_Cx p R s m meth c D aC ba ex X n d B n0 t0) {i : Nat} {pc len : Nat} {res : List Int} {L : jm_L} {st : List jm_V} {h : jm_H} (he : P[i]? = some (pc, .i2l, len, res)) (hdc : decode (jm_co n) pc = .ok (.i2l, len)) (hck : jm_chk n P i (pc, .i2l, len, res) = true)
    (hs : jm_sem X C B Q (jm_It p l e R s m args below meth c D aC ba ex P n B n0 t0 Qz) (pc, .i2l, len, res) i L st h) : jm_It p l e R s m args below meth c D aC ba ex P n B n0 t0 Qz i L st h := by
  intro e' he' H locs cells slots ls hS hL hst
  cases he.symm.trans he'
  obtain ⟨hx, hb, hml, hown, hE, hXt, hsz, hin, hfr, hlo, hBc, hBs⟩ := hC
  simp only [jm_chk] at hck
  simp only [jm_sem] at hs
  obtain ⟨hl1, e1, g1, g2⟩ := jm_c_spec hck
  dsimp only at hl1 g2
  subst hl1
  split at hs
  · rename_i a r
    obtain ⟨va, hst⟩ := List.forall_mem_cons.mp hst
    have kk := hs e1 g1 H locs cells slots ls hS hL (List.forall_mem_cons.mpr ⟨⟨by have h8 : jm_r a := va; omega, by have h8 : jm_r a := va; omega⟩, hst⟩)
    rw [g2] at kk
    exact lv_i2l hx hb hdc (jm_i2l va) kk
  · exact hs.elim

set_option maxHeartbeats 1000000 in
theorem jm_t_l2i (hC : jm_Cx p R s m meth c D aC ba ex X n d B n0 t0) {i : Nat} {pc len : Nat} {res : List Int} {L : jm_L} {st : List jm_V} {h : jm_H} (he : P[i]? = some (pc, .l2i, len, res)) (hdc : decode (jm_co n) pc = .ok (.l2i, len)) (hck : jm_chk n P i (pc, .l2i, len, res) = true)
    (hs : jm_sem X C B Q (jm_It p l e R s m args below meth c D aC ba ex P n B n0 t0 Qz) (pc, .l2i, len, res) i L st h) : jm_It p l e R s m args below meth c D aC ba ex P n B n0 t0 Qz i L st h := by
  intro e' he' H locs cells slots ls hS hL hst
  cases he.symm.trans he'
  obtain ⟨hx, hb, hml, hown, hE, hXt, hsz, hin, hfr, hlo, hBc, hBs⟩ := hC
  simp only [jm_chk] at hck
  simp only [jm_sem] at hs
  obtain ⟨hl1, e1, g1, g2⟩ := jm_c_spec hck
  dsimp only at hl1 g2
  subst hl1
  split at hs
  · rename_i a r
    obtain ⟨va, hst⟩ := List.forall_mem_cons.mp hst
    obtain ⟨hr, hs⟩ := hs
    have kk := hs e1 g1 H locs cells slots ls hS hL (List.forall_mem_cons.mpr ⟨hr, hst⟩)
    rw [g2] at kk
    exact lv_l2i hx hb hdc (by rw [Int64.toInt32_ofInt]) kk
  · exact hs.elim

set_option maxHeartbeats 1000000 in
theorem jm_t_i2b (hC : jm_Cx p R s m meth c D aC ba ex X n d B n0 t0) {i : Nat} {pc len : Nat} {res : List Int} {L : jm_L} {st : List jm_V} {h : jm_H} (he : P[i]? = some (pc, .i2b, len, res)) (hdc : decode (jm_co n) pc = .ok (.i2b, len)) (hck : jm_chk n P i (pc, .i2b, len, res) = true)
    (hs : jm_sem X C B Q (jm_It p l e R s m args below meth c D aC ba ex P n B n0 t0 Qz) (pc, .i2b, len, res) i L st h) : jm_It p l e R s m args below meth c D aC ba ex P n B n0 t0 Qz i L st h := by
  intro e' he' H locs cells slots ls hS hL hst
  cases he.symm.trans he'
  obtain ⟨hx, hb, hml, hown, hE, hXt, hsz, hin, hfr, hlo, hBc, hBs⟩ := hC
  simp only [jm_chk] at hck
  simp only [jm_sem] at hs
  obtain ⟨hl1, e1, g1, g2⟩ := jm_c_spec hck
  dsimp only at hl1 g2
  subst hl1
  split at hs
  · rename_i a r
    obtain ⟨va, hst⟩ := List.forall_mem_cons.mp hst
    have kk := hs e1 g1 H locs cells slots ls hS hL (List.forall_mem_cons.mpr ⟨jm_rb a, hst⟩)
    rw [g2] at kk
    exact lv_i2b hx hb hdc (jm_b va) kk
  · exact hs.elim

set_option maxHeartbeats 1000000 in
theorem jm_t_i2s (hC : jm_Cx p R s m meth c D aC ba ex X n d B n0 t0) {i : Nat} {pc len : Nat} {res : List Int} {L : jm_L} {st : List jm_V} {h : jm_H} (he : P[i]? = some (pc, .i2s, len, res)) (hdc : decode (jm_co n) pc = .ok (.i2s, len)) (hck : jm_chk n P i (pc, .i2s, len, res) = true)
    (hs : jm_sem X C B Q (jm_It p l e R s m args below meth c D aC ba ex P n B n0 t0 Qz) (pc, .i2s, len, res) i L st h) : jm_It p l e R s m args below meth c D aC ba ex P n B n0 t0 Qz i L st h := by
  intro e' he' H locs cells slots ls hS hL hst
  cases he.symm.trans he'
  obtain ⟨hx, hb, hml, hown, hE, hXt, hsz, hin, hfr, hlo, hBc, hBs⟩ := hC
  simp only [jm_chk] at hck
  simp only [jm_sem] at hs
  obtain ⟨hl1, e1, g1, g2⟩ := jm_c_spec hck
  dsimp only at hl1 g2
  subst hl1
  split at hs
  · rename_i a r
    obtain ⟨va, hst⟩ := List.forall_mem_cons.mp hst
    have kk := hs e1 g1 H locs cells slots ls hS hL (List.forall_mem_cons.mpr ⟨jm_rs a, hst⟩)
    rw [g2] at kk
    exact lv_i2s hx hb hdc (jm_s va) kk
  · exact hs.elim

set_option maxHeartbeats 1000000 in
theorem jm_t_dup (hC : jm_Cx p R s m meth c D aC ba ex X n d B n0 t0) {i : Nat} {pc len : Nat} {res : List Int} {L : jm_L} {st : List jm_V} {h : jm_H} (he : P[i]? = some (pc, .dup, len, res)) (hdc : decode (jm_co n) pc = .ok (.dup, len)) (hck : jm_chk n P i (pc, .dup, len, res) = true)
    (hs : jm_sem X C B Q (jm_It p l e R s m args below meth c D aC ba ex P n B n0 t0 Qz) (pc, .dup, len, res) i L st h) : jm_It p l e R s m args below meth c D aC ba ex P n B n0 t0 Qz i L st h := by
  intro e' he' H locs cells slots ls hS hL hst
  cases he.symm.trans he'
  obtain ⟨hx, hb, hml, hown, hE, hXt, hsz, hin, hfr, hlo, hBc, hBs⟩ := hC
  simp only [jm_chk] at hck
  simp only [jm_sem] at hs
  obtain ⟨hl1, e1, g1, g2⟩ := jm_c_spec hck
  dsimp only at hl1 g2
  subst hl1
  split at hs
  · rename_i a r
    have va := (List.forall_mem_cons.mp hst).1
    have kk := hs e1 g1 H locs cells slots ls hS hL (List.forall_mem_cons.mpr ⟨va, hst⟩)
    rw [g2] at kk
    exact lv_dup hx hb hdc rfl kk
  · rename_i a r
    have va := (List.forall_mem_cons.mp hst).1
    have kk := hs e1 g1 H locs cells slots ls hS hL (List.forall_mem_cons.mpr ⟨va, hst⟩)
    rw [g2] at kk
    exact lv_dup hx hb hdc (jm_ref_cat ba ex a) kk
  · exact hs.elim

set_option maxHeartbeats 1000000 in
theorem jm_t_dup2 (hC : jm_Cx p R s m meth c D aC ba ex X n d B n0 t0) {i : Nat} {pc len : Nat} {res : List Int} {L : jm_L} {st : List jm_V} {h : jm_H} (he : P[i]? = some (pc, .dup2, len, res)) (hdc : decode (jm_co n) pc = .ok (.dup2, len)) (hck : jm_chk n P i (pc, .dup2, len, res) = true)
    (hs : jm_sem X C B Q (jm_It p l e R s m args below meth c D aC ba ex P n B n0 t0 Qz) (pc, .dup2, len, res) i L st h) : jm_It p l e R s m args below meth c D aC ba ex P n B n0 t0 Qz i L st h := by
  intro e' he' H locs cells slots ls hS hL hst
  cases he.symm.trans he'
  obtain ⟨hx, hb, hml, hown, hE, hXt, hsz, hin, hfr, hlo, hBc, hBs⟩ := hC
  simp only [jm_chk] at hck
  simp only [jm_sem] at hs
  obtain ⟨hl1, e1, g1, g2⟩ := jm_c_spec hck
  dsimp only at hl1 g2
  subst hl1
  split at hs
  · rename_i a b r
    have h1 := List.forall_mem_cons.mp hst
    have h2 := List.forall_mem_cons.mp h1.2
    have kk := hs e1 g1 H locs cells slots ls hS hL (List.forall_mem_cons.mpr ⟨h1.1, List.forall_mem_cons.mpr ⟨h2.1, hst⟩⟩)
    rw [g2] at kk
    exact lv_dup2_11 hx hb hdc rfl (jm_ref_cat ba ex b) kk
  · exact hs.elim

set_option maxHeartbeats 1000000 in
theorem jm_t_pop (hC : jm_Cx p R s m meth c D aC ba ex X n d B n0 t0) {i : Nat} {pc len : Nat} {res : List Int} {L : jm_L} {st : List jm_V} {h : jm_H} (he : P[i]? = some (pc, .pop, len, res)) (hdc : decode (jm_co n) pc = .ok (.pop, len)) (hck : jm_chk n P i (pc, .pop, len, res) = true)
    (hs : jm_sem X C B Q (jm_It p l e R s m args below meth c D aC ba ex P n B n0 t0 Qz) (pc, .pop, len, res) i L st h) : jm_It p l e R s m args below meth c D aC ba ex P n B n0 t0 Qz i L st h := by
  intro e' he' H locs cells slots ls hS hL hst
  cases he.symm.trans he'
  obtain ⟨hx, hb, hml, hown, hE, hXt, hsz, hin, hfr, hlo, hBc, hBs⟩ := hC
  simp only [jm_chk] at hck
  simp only [jm_sem] at hs
  obtain ⟨hl1, e1, g1, g2⟩ := jm_c_spec hck
  dsimp only at hl1 g2
  subst hl1
  split at hs
  · rename_i a r
    have kk := hs e1 g1 H locs cells slots ls hS hL (List.forall_mem_cons.mp hst).2
    rw [g2] at kk
    exact lv_pop hx hb hdc rfl kk
  · exact hs.elim

set_option maxHeartbeats 1000000 in
theorem jm_t_ifCond {cd : Jvm.ClassFile.Cond} {off : Int} (hC : jm_Cx p R s m meth c D aC ba ex X n d B n0 t0) {i : Nat} {pc len : Nat} {res : List Int} {L : jm_L} {st : List jm_V} {h : jm_H} (he : P[i]? = some (pc, .ifCond cd off, len, res)) (hdc : decode (jm_co n) pc = .ok (.ifCond cd off, len)) (hck : jm_chk n P i (pc, .ifCond cd off, len, res) = true)
    (hs : jm_sem X C B Q (jm_It p l e R s m args below meth c D aC ba ex P n B n0 t0 Qz) (pc, .ifCond cd off, len, res) i L st h) : jm_It p l e R s m args below meth c D aC ba ex P n B n0 t0 Qz i L st h := by
  intro e' he' H locs cells slots ls hS hL hst
  cases he.symm.trans he'
  obtain ⟨hx, hb, hml, hown, hE, hXt, hsz, hin, hfr, hlo, hBc, hBs⟩ := hC
  simp only [jm_chk, Bool.and_eq_true] at hck
  simp only [jm_sem] at hs
  obtain ⟨hc1, hc2⟩ := hck
  obtain ⟨hl1, e1, g1, g2⟩ := jm_c_spec hc1
  dsimp only at hl1 g2
  subst hl1
  split at hs
  · rename_i a r t
    obtain ⟨va, hst⟩ := List.forall_mem_cons.mp hst
    have vb := jm_r0
    obtain ⟨e2, g3, g4⟩ := jm_jmp_spec hc2
    have k1 := fun q => hs.1 q e2 g3 H locs cells slots ls hS hL hst
    have k2 := fun q => hs.2 q e1 g1 H locs cells slots ls hS hL hst
    rw [g2] at k2
    cases cd
    case eq => exact lv_if_eq hx hb hdc g4 (fun q => k1 ((jm_eq va vb).mp q)) (fun q => k2 (fun z => q ((jm_eq va vb).mpr z)))
    case ne => exact lv_if_ne hx hb hdc g4 (fun q => k1 (fun z => q ((jm_eq va vb).mpr z))) (fun q => k2 (fun z => z ((jm_eq va vb).mp q)))
    case lt => exact lv_if_lt hx hb hdc g4 (fun q => k1 ((jm_lt va vb).mp q)) (fun q => k2 (fun z => q ((jm_lt va vb).mpr z)))
    case ge => exact lv_if_ge hx hb hdc g4 (fun q => k1 ((jm_le vb va).mp q)) (fun q => k2 (fun z => q ((jm_le vb va).mpr z)))
    case gt => exact lv_if_gt hx hb hdc g4 (fun q => k1 ((jm_lt vb va).mp q)) (fun q => k2 (fun z => q ((jm_lt vb va).mpr z)))
    case le => exact lv_if_le hx hb hdc g4 (fun q => k1 ((jm_le va vb).mp q)) (fun q => k2 (fun z => q ((jm_le va vb).mpr z)))
  · exact hs.elim

set_option maxHeartbeats 1000000 in
theorem jm_t_if_icmp {cd : Jvm.ClassFile.Cond} {off : Int} (hC : jm_Cx p R s m meth c D aC ba ex X n d B n0 t0) {i : Nat} {pc len : Nat} {res : List Int} {L : jm_L} {st : List jm_V} {h : jm_H} (he : P[i]? = some (pc, .if_icmp cd off, len, res)) (hdc : decode (jm_co n) pc = .ok (.if_icmp cd off, len)) (hck : jm_chk n P i (pc, .if_icmp cd off, len, res) = true)
    (hs : jm_sem X C B Q (jm_It p l e R s m args below meth c D aC ba ex P n B n0 t0 Qz) (pc, .if_icmp cd off, len, res) i L st h) : jm_It p l e R s m args below meth c D aC ba ex P n B n0 t0 Qz i L st h := by
  intro e' he' H locs cells slots ls hS hL hst
  cases he.symm.trans he'
  obtain ⟨hx, hb, hml, hown, hE, hXt, hsz, hin, hfr, hlo, hBc, hBs⟩ := hC
  simp only [jm_chk, Bool.and_eq_true] at hck
  simp only [jm_sem] at hs
  obtain ⟨hc1, hc2⟩ := hck
  obtain ⟨hl1, e1, g1, g2⟩ := jm_c_spec hc1
  dsimp only at hl1 g2
  subst hl1
  split at hs
  · rename_i b a r t
    obtain ⟨vb, hst⟩ := List.forall_mem_cons.mp hst
    obtain ⟨va, hst⟩ := List.forall_mem_cons.mp hst
    obtain ⟨e2, g3, g4⟩ := jm_jmp_spec hc2
    have k1 := fun q => hs.1 q e2 g3 H locs cells slots ls hS hL hst
    have k2 := fun q => hs.2 q e1 g1 H locs cells slots ls hS hL hst
    rw [g2] at k2
    cases cd
    case eq => exact lv_icmp_eq hx hb hdc g4 (fun q => k1 ((jm_eq va vb).mp q)) (fun q => k2 (fun z => q ((jm_eq va vb).mpr z)))
    case ne => exact lv_icmp_ne hx hb hdc g4 (fun q => k1 (fun z => q ((jm_eq va vb).mpr z))) (fun q => k2 (fun z => z ((jm_eq va vb).mp q)))
    case lt => exact lv_icmp_lt hx hb hdc g4 (fun q => k1 ((jm_lt va vb).mp q)) (fun q => k2 (fun z => q ((jm_lt va vb).mpr z)))
    case ge => exact lv_icmp_ge hx hb hdc g4 (fun q => k1 ((jm_le vb va).mp q)) (fun q => k2 (fun z => q ((jm_le vb va).mpr z)))
    case gt => exact lv_icmp_gt hx hb hdc g4 (fun q => k1 ((jm_lt vb va).mp q)) (fun q => k2 (fun z => q ((jm_lt vb va).mpr z)))
    case le => exact lv_icmp_le hx hb hdc g4 (fun q => k1 ((jm_le va vb).mp q)) (fun q => k2 (fun z => q ((jm_le va vb).mpr z)))
  · exact hs.elim

set_option maxHeartbeats 1000000 in
theorem jm_t_goto {off : Int} (hC : jm_Cx p R s m meth c D aC ba ex X n d B n0 t0) {i : Nat} {pc len : Nat} {res : List Int} {L : jm_L} {st : List jm_V} {h : jm_H} (he : P[i]? = some (pc, .goto off, len, res)) (hdc : decode (jm_co n) pc = .ok (.goto off, len)) (hck : jm_chk n P i (pc, .goto off, len, res) = true)
    (hs : jm_sem X C B Q (jm_It p l e R s m args below meth c D aC ba ex P n B n0 t0 Qz) (pc, .goto off, len, res) i L st h) : jm_It p l e R s m args below meth c D aC ba ex P n B n0 t0 Qz i L st h := by
  intro e' he' H locs cells slots ls hS hL hst
  cases he.symm.trans he'
  obtain ⟨hx, hb, hml, hown, hE, hXt, hsz, hin, hfr, hlo, hBc, hBs⟩ := hC
  simp only [jm_chk, Bool.and_eq_true, beq_iff_eq] at hck
  simp only [jm_sem] at hs
  obtain ⟨hc1, hc2⟩ := hck
  subst hc1
  split at hs
  · obtain ⟨e2, g3, g4⟩ := jm_jmp_spec hc2
    exact lv_goto hx hb hdc g4 (hs e2 g3 H locs cells slots ls hS hL hst)
  · exact hs.elim

set_option maxHeartbeats 1000000 in
theorem jm_t_tableswitch {dd lo hi : Int} {offs : Array Int} (hC : jm_Cx p R s m meth c D aC ba ex X n d B n0 t0) {i : Nat} {pc len : Nat} {res : List Int} {L : jm_L} {st : List jm_V} {h : jm_H} (he : P[i]? = some (pc, .tableswitch dd lo hi offs, len, res)) (hdc : decode (jm_co n) pc = .ok (.tableswitch dd lo hi offs, len)) (hck : jm_chk n P i (pc, .tableswitch dd lo hi offs, len, res) = true)
    (hs : jm_sem X C B Q (jm_It p l e R s m args below meth c D aC ba ex P n B n0 t0 Qz) (pc, .tableswitch dd lo hi offs, len, res) i L st h) : jm_It p l e R s m args below meth c D aC ba ex P n B n0 t0 Qz i L st h := by
  intro e' he' H locs cells slots ls hS hL hst
  cases he.symm.trans he'
  obtain ⟨hx, hb, hml, hown, hE, hXt, hsz, hin, hfr, hlo, hBc, hBs⟩ := hC
  simp only [jm_chk, Bool.and_eq_true, decide_eq_true_eq] at hck
  simp only [jm_sem] at hs
  obtain ⟨hc1, hc2⟩ := hck
  split at hs
  · rename_i a r
    obtain ⟨va, hst⟩ := List.forall_mem_cons.mp hst
    have va : jm_r a := va
    rcases jm_ckt_spec lo offs.toList res hc2 hs with ⟨j, off, t, e1, e2, e3, e4⟩ | ⟨e1, t, e3, e4⟩
    · obtain ⟨e5, g3, g4⟩ := jm_jmp_spec e3
      have hj : j < offs.toList.length := (List.getElem?_eq_some_iff.mp e2).1
      refine lv_tableIn hx hb hdc (by rw [jm_ti va]; omega) (by rw [jm_ti va]; omega) (off := off) ?_ g4 (e4 e5 g3 H locs cells slots ls hS hL hst)
      rw [jm_ti va, e1, show (lo + (j : Int) - lo).toNat = j by omega, ← Array.getElem?_toList]
      exact e2
    · obtain ⟨e5, g3, g4⟩ := jm_jmp_spec e3
      exact lv_tableOut hx hb hdc (by rw [jm_ti va]; omega) g4 (e4 e5 g3 H locs cells slots ls hS hL hst)
  · exact hs.elim

set_option maxHeartbeats 1000000 in
theorem jm_t_lookupswitch {dd : Int} {ps : Array (Int × Int)} (hC : jm_Cx p R s m meth c D aC ba ex X n d B n0 t0) {i : Nat} {pc len : Nat} {res : List Int} {L : jm_L} {st : List jm_V} {h : jm_H} (he : P[i]? = some (pc, .lookupswitch dd ps, len, res)) (hdc : decode (jm_co n) pc = .ok (.lookupswitch dd ps, len)) (hck : jm_chk n P i (pc, .lookupswitch dd ps, len, res) = true)
    (hs : jm_sem X C B Q (jm_It p l e R s m args below meth c D aC ba ex P n B n0 t0 Qz) (pc, .lookupswitch dd ps, len, res) i L st h) : jm_It p l e R s m args below meth c D aC ba ex P n B n0 t0 Qz i L st h := by
  intro e' he' H locs cells slots ls hS hL hst
  cases he.symm.trans he'
  obtain ⟨hx, hb, hml, hown, hE, hXt, hsz, hin, hfr, hlo, hBc, hBs⟩ := hC
  simp only [jm_chk, Bool.and_eq_true] at hck
  simp only [jm_sem] at hs
  obtain ⟨hc1, hc2⟩ := hck
  split at hs
  · rename_i a r
    obtain ⟨va, hst⟩ := List.forall_mem_cons.mp hst
    have va : jm_r a := va
    obtain ⟨t, e3, e4⟩ := jm_ckl_spec ps.toList res hc2 hs
    obtain ⟨e5, g3, g4⟩ := jm_jmp_spec e3
    exact lv_lookup hx hb hdc hc1 (by rw [jm_ti va]) g4 (e4 e5 g3 H locs cells slots ls hS hL hst)
  · exact hs.elim

end JMS
