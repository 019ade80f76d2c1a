section JMN
variable {p : Program} {l : Launch} {e : Env} {R : Room} {s : State} {m : MethodId} {args : Array Value} {below : List Frame} {meth : Method} {c : Code} {D : va_G} {aC : Nat → ClassId} {ba : Nat} {ex : Nat → Nat}
variable {X : jm_X} {n d : Nat} {B : Nat × Nat} {n0 t0 : Nat} {P : List jm_E} {Qz : State → Prop} {C : jm_C} {Q : jm_Q}
theorem jm_m1 : jm_r (-1) := ⟨by decide, by decide⟩
theorem jm_w_ac : Cond.arrayClass .int ∈ lw_tbl := List.mem_of_getElem? (i := 108) (by decide +kernel)
theorem jm_w_az : Cond.arrayClass .boolean ∈ lw_tbl := List.mem_of_getElem? (i := 256) (by decide +kernel)
theorem jm_w_oi : Cond.instanceMethod objectInit ∈ lw_tbl := List.mem_of_getElem? (i := 90) (by decide +kernel)
theorem jm_w_oc : Cond.code objectInit ⟨#[0xb1]⟩ 1 none ∈ lw_tbl := List.mem_of_getElem? (i := 91) (by decide +kernel)
theorem jm_w_ys : Cond.static arraycopyName ∈ lw_tbl := List.mem_of_getElem? (i := 407) (by decide +kernel)
theorem jm_w_yn : Cond.native arraycopyName ∈ lw_tbl := List.mem_of_getElem? (i := 408) (by decide +kernel)
theorem jm_w_yi : Cond.initialized "java/lang/System" ∈ lw_tbl := List.mem_of_getElem? (i := 81) (by decide +kernel)
theorem jm_w_xs : Cond.static Lib.Math.min.name ∈ lw_tbl := List.mem_of_getElem? (i := 528) (by decide +kernel)
theorem jm_w_xc : Cond.code Lib.Math.min.name Lib.Math.min.code 2 (some .int) ∈ lw_tbl := List.mem_of_getElem? (i := 529) (by decide +kernel)
theorem jm_w_xi : Cond.initialized "java/lang/Math" ∈ lw_tbl := List.mem_of_getElem? (i := 82) (by decide +kernel)

set_option maxHeartbeats 1000000 in
theorem jm_t_newarray {ty : ArrayType} (hC : jm_Cx p R s m meth c D aC ba ex X n d B n0 t0) {i : Nat} {pc len : Nat} {res : List Int} {L : jm_L} {st : List jm_V} {h : jm_H} (he : P[i]? = some (pc, .newarray ty, len, res)) (hdc : decode (jm_co n) pc = .ok (.newarray ty, len)) (hck : jm_chk n P i (pc, .newarray ty, len, res) = true)
    (hs : jm_sem X C B Q (jm_It p l e R s m args below meth c D aC ba ex P n B n0 t0 Qz) (pc, .newarray ty, len, res) i L st h) : jm_It p l e R s m args below meth c D aC ba ex P n B n0 t0 Qz i L st h := by
  intro e' he' H locs cells slots ls hS hL hst
  cases he.symm.trans he'
  obtain ⟨hx, hb, hml, hown, hE, hXt, hsz, hin, hfr, hlo, hBc, hBs⟩ := hC
  simp only [jm_chk] at hck
  simp only [jm_sem] at hs
  obtain ⟨hl1, e1, g1, g2⟩ := jm_c_spec hck
  dsimp only at hl1 g2
  subst hl1
  split at hs
  · rename_i nn r k
    obtain ⟨hk, ⟨hn0, hn1⟩, ⟨hb1, hb2⟩, hs⟩ := hs
    obtain ⟨vn, hst⟩ := List.forall_mem_cons.mp hst
    have vn : jm_r nn := vn
    have h4 := hS.2.2.2.1
    have h5 := hS.2.2.2.2.1
    rcases hk with ⟨rfl, rfl⟩ | ⟨rfl, rfl⟩
    · refine va_newa (atype := .int) (a0 := (nn.toNat, .inl (fun _ => Int32.ofInt 0))) hx hb (jm_word hE jm_w_ac rfl args) (ty := .int) rfl hE.2.2.2 hS.1 (jm_ws_D aC ba ex h) hS.2.2.1 (fun q hq => by show ba ≤ q; omega) (fun cA => rfl) (jm_n0 vn hn0) (jm_nn vn) (by show nn.toNat * 4 ≤ 536870912; omega) (by omega) (by omega) hdc (fun q cA H1 hK1 hP1 hD1 hS1 => ?_)
      refine jm_Wsz (fun hz => ?_)
      have hq := jm_new_at hD1 hP1 (by omega)
      have hcA : cA = aC 0 := Option.some.inj ((hK1.2 5 _ rfl).2.symm.trans (hE.2.2.2.2 0 _ rfl).2)
      subst hq hcA
      have hent : (.inl (aC 0, (nn.toNat, .inl (fun _ => Int32.ofInt 0))) : va_E) = jm_ent aC ba ex h.1.length (0, nn.toNat, []) (jm_uc h.2 h.1.length (fun _ => 0)) := by simp [jm_ent, jm_uc]
      rw [hent, jm_ws_new] at hP1
      have kk := hs e1 g1 H1 locs (cells + 1) (slots + nn.toNat) ls ⟨hP1, jm_uc_r hS.2.1 jm_r0, hS1, by simp; omega, by simp [jm_tot_app]; omega, by simp; omega, by simp [jm_tot_app]; omega⟩ hL (List.forall_mem_cons.mpr ⟨trivial, hst⟩)
      rw [g2, List.map_cons, jm_len_ref] at kk
      exact kk
    · refine va_newa (atype := .boolean) (a0 := (nn.toNat, .inl (fun _ => Int32.ofInt 0))) hx hb (jm_word hE jm_w_az rfl args) (ty := .boolean) rfl hE.2.2.2 hS.1 (jm_ws_D aC ba ex h) hS.2.2.1 (fun q hq => by show ba ≤ q; omega) (fun cA => rfl) (jm_n0 vn hn0) (jm_nn vn) (by show nn.toNat * 1 ≤ 536870912; omega) (by omega) (by omega) hdc (fun q cA H1 hK1 hP1 hD1 hS1 => ?_)
      refine jm_Wsz (fun hz => ?_)
      have hq := jm_new_at hD1 hP1 (by omega)
      have hcA : cA = aC 1 := Option.some.inj ((hK1.2 5 _ rfl).2.symm.trans (hE.2.2.2.2 1 _ rfl).2)
      subst hq hcA
      have hent : (.inl (aC 1, (nn.toNat, .inl (fun _ => Int32.ofInt 0))) : va_E) = jm_ent aC ba ex h.1.length (1, nn.toNat, []) (jm_uc h.2 h.1.length (fun _ => 0)) := by simp [jm_ent, jm_uc]
      rw [hent, jm_ws_new] at hP1
      have kk := hs e1 g1 H1 locs (cells + 1) (slots + nn.toNat) ls ⟨hP1, jm_uc_r hS.2.1 jm_r0, hS1, by simp; omega, by simp [jm_tot_app]; omega, by simp; omega, by simp [jm_tot_app]; omega⟩ hL (List.forall_mem_cons.mpr ⟨trivial, hst⟩)
      rw [g2, List.map_cons, jm_len_ref] at kk
      exact kk
  · exact hs.elim

set_option maxHeartbeats 1000000 in
theorem jm_t_anewarray {x : Nat} (hC : jm_Cx p R s m meth c D aC ba ex X n d B n0 t0) {i : Nat} {pc len : Nat} {res : List Int} {L : jm_L} {st : List jm_V} {h : jm_H} (he : P[i]? = some (pc, .anewarray x, len, res)) (hdc : decode (jm_co n) pc = .ok (.anewarray x, len)) (hck : jm_chk n P i (pc, .anewarray x, len, res) = true)
    (hs : jm_sem X C B Q (jm_It p l e R s m args below meth c D aC ba ex P n B n0 t0 Qz) (pc, .anewarray x, len, res) i L st h) : jm_It p l e R s m args below meth c D aC ba ex P n B n0 t0 Qz i L st h := by
  intro e' he' H locs cells slots ls hS hL hst
  cases he.symm.trans he'
  obtain ⟨hx, hb, hml, hown, hE, hXt, hsz, hin, hfr, hlo, hBc, hBs⟩ := hC
  simp only [jm_chk, Bool.and_eq_true] at hck
  simp only [jm_sem] at hs
  obtain ⟨hc1, hc2⟩ := hck
  obtain ⟨hl1, e1, g1, g2⟩ := jm_c_spec hc1
  dsimp only at hl1 g2
  subst hl1
  split at hs
  · rename_i nn r k
    obtain ⟨hk, ⟨hn0, hn1⟩, ⟨hb1, hb2⟩, hs⟩ := hs
    obtain ⟨vn, hst⟩ := List.forall_mem_cons.mp hst
    have vn : jm_r nn := vn
    have h4 := hS.2.2.2.1
    have h5 := hS.2.2.2.2.1
    dsimp only at hc2
    obtain ⟨w, hw, hw2⟩ := jm_any hc2
    simp only [Bool.and_eq_true, Bool.or_eq_true, beq_iff_eq] at hw2
    obtain ⟨w1, w2, w3⟩ := hw2
    have hwd := jm_word hE (jm_hw_in (List.all_eq_true.mp jm_cl_ok w hw) _ List.mem_cons_self) rfl args
    unfold jm_clw at hwd
    rw [w1, w2] at hwd
    rcases w3 with ⟨rfl, w3⟩ | ⟨rfl, w3⟩ | ⟨rfl, w3⟩ <;> rw [w3] at hwd
    · refine va_newq (C := "MatNations$Mat") hx hb hown hwd hE.2.2.1.1 hE.2.2.2 hS.1 (jm_ws_D aC ba ex h) hS.2.2.1 (fun q hq => by show ba ≤ q; omega) (jm_n0 vn hn0) (jm_nn vn) (by omega) (by omega) (by omega) hdc (fun q cA H1 hK1 hP1 hD1 hS1 => ?_)
      refine jm_Wsz (fun hz => ?_)
      have hq := jm_new_at hD1 hP1 (by omega)
      have hcA : cA = aC 2 := by
        obtain ⟨_, _, _, _, _, z1⟩ := (hK1.2 5 _ rfl).2
        obtain ⟨_, _, _, _, _, z2⟩ := (hE.2.2.2.2 2 _ rfl).2
        exact Option.some.inj (z1.symm.trans z2)
      subst hq hcA
      have hent : (.inl (aC 2, nn.toNat, .inr (.inr (.inr (.inr (fun _ => none))))) : va_E) = jm_ent aC ba ex h.1.length (2, nn.toNat, []) (jm_uc h.2 h.1.length (fun _ => -1)) := by simp [jm_ent, jm_uc, jm_ro]
      rw [hent, jm_ws_new] at hP1
      have kk := hs e1 g1 H1 locs (cells + 1) (slots + nn.toNat) ls ⟨hP1, jm_uc_r hS.2.1 jm_m1, hS1, by simp; omega, by simp [jm_tot_app]; omega, by simp; omega, by simp [jm_tot_app]; omega⟩ hL (List.forall_mem_cons.mpr ⟨trivial, hst⟩)
      rw [g2, List.map_cons, jm_len_ref] at kk
      exact kk
    · refine va_newq (C := "MatNations$Comer") hx hb hown hwd hE.2.2.1.2.1 hE.2.2.2 hS.1 (jm_ws_D aC ba ex h) hS.2.2.1 (fun q hq => by show ba ≤ q; omega) (jm_n0 vn hn0) (jm_nn vn) (by omega) (by omega) (by omega) hdc (fun q cA H1 hK1 hP1 hD1 hS1 => ?_)
      refine jm_Wsz (fun hz => ?_)
      have hq := jm_new_at hD1 hP1 (by omega)
      have hcA : cA = aC 3 := by
        obtain ⟨_, _, _, _, _, z1⟩ := (hK1.2 5 _ rfl).2
        obtain ⟨_, _, _, _, _, z2⟩ := (hE.2.2.2.2 3 _ rfl).2
        exact Option.some.inj (z1.symm.trans z2)
      subst hq hcA
      have hent : (.inl (aC 3, nn.toNat, .inr (.inr (.inr (.inr (fun _ => none))))) : va_E) = jm_ent aC ba ex h.1.length (3, nn.toNat, []) (jm_uc h.2 h.1.length (fun _ => -1)) := by simp [jm_ent, jm_uc, jm_ro]
      rw [hent, jm_ws_new] at hP1
      have kk := hs e1 g1 H1 locs (cells + 1) (slots + nn.toNat) ls ⟨hP1, jm_uc_r hS.2.1 jm_m1, hS1, by simp; omega, by simp [jm_tot_app]; omega, by simp; omega, by simp [jm_tot_app]; omega⟩ hL (List.forall_mem_cons.mpr ⟨trivial, hst⟩)
      rw [g2, List.map_cons, jm_len_ref] at kk
      exact kk
    · refine va_newq (C := "MatNations$House") hx hb hown hwd hE.2.2.1.2.2 hE.2.2.2 hS.1 (jm_ws_D aC ba ex h) hS.2.2.1 (fun q hq => by show ba ≤ q; omega) (jm_n0 vn hn0) (jm_nn vn) (by omega) (by omega) (by omega) hdc (fun q cA H1 hK1 hP1 hD1 hS1 => ?_)
      refine jm_Wsz (fun hz => ?_)
      have hq := jm_new_at hD1 hP1 (by omega)
      have hcA : cA = aC 4 := by
        obtain ⟨_, _, _, _, _, z1⟩ := (hK1.2 5 _ rfl).2
        obtain ⟨_, _, _, _, _, z2⟩ := (hE.2.2.2.2 4 _ rfl).2
        exact Option.some.inj (z1.symm.trans z2)
      subst hq hcA
      have hent : (.inl (aC 4, nn.toNat, .inr (.inr (.inr (.inr (fun _ => none))))) : va_E) = jm_ent aC ba ex h.1.length (4, nn.toNat, []) (jm_uc h.2 h.1.length (fun _ => -1)) := by simp [jm_ent, jm_uc, jm_ro]
      rw [hent, jm_ws_new] at hP1
      have kk := hs e1 g1 H1 locs (cells + 1) (slots + nn.toNat) ls ⟨hP1, jm_uc_r hS.2.1 jm_m1, hS1, by simp; omega, by simp [jm_tot_app]; omega, by simp; omega, by simp [jm_tot_app]; omega⟩ hL (List.forall_mem_cons.mpr ⟨trivial, hst⟩)
      rw [g2, List.map_cons, jm_len_ref] at kk
      exact kk
  · exact hs.elim

set_option maxHeartbeats 1000000 in
theorem jm_t_new {x : Nat} (hC : jm_Cx p R s m meth c D aC ba ex X n d B n0 t0) {i : Nat} {pc len : Nat} {res : List Int} {L : jm_L} {st : List jm_V} {h : jm_H} (he : P[i]? = some (pc, .new x, len, res)) (hdc : decode (jm_co n) pc = .ok (.new x, len)) (hck : jm_chk n P i (pc, .new x, len, res) = true)
    (hs : jm_sem X C B Q (jm_It p l e R s m args below meth c D aC ba ex P n B n0 t0 Qz) (pc, .new x, len, res) i L st h) : jm_It p l e R s m args below meth c D aC ba ex P n B n0 t0 Qz i L st h := by
  intro e' he' H locs cells slots ls hS hL hst
  cases he.symm.trans he'
  obtain ⟨hx, hb, hml, hown, hE, hXt, hsz, hin, hfr, hlo, hBc, hBs⟩ := hC
  simp only [jm_chk, Bool.and_eq_true] at hck
  simp only [jm_sem] at hs
  obtain ⟨hc1, hc2⟩ := hck
  obtain ⟨hl1, e1, g1, g2⟩ := jm_c_spec hc1
  dsimp only at hl1 g2
  subst hl1
  split at hs
  · rename_i cl w
    obtain ⟨⟨hb1, hb2⟩, hs⟩ := hs
    have h4 := hS.2.2.2.1
    have h5 := hS.2.2.2.2.1
    simp only [Bool.and_eq_true, decide_eq_true_eq] at hc2
    obtain ⟨⟨hw0, hcl⟩, hany⟩ := hc2
    obtain ⟨q, hq, hq2⟩ := jm_any hany
    simp only [Bool.and_eq_true, beq_iff_eq] at hq2
    obtain ⟨w1, w2, w3⟩ := hq2
    have hwd := jm_word hE (jm_hw_in (List.all_eq_true.mp jm_cl_ok q hq) _ List.mem_cons_self) rfl args
    unfold jm_clw at hwd
    rw [w1, w2, w3] at hwd
    have hcl2 : cl.toNat < vwCl.length := hcl
    have hvc := List.getElem?_eq_getElem hcl2
    generalize vwCl[cl.toNat] = vc at hvc
    obtain ⟨hT, hN⟩ := jm_CN_T _ _ hvc
    obtain ⟨ty, hp, hnm, hu, hi, htk, hcn⟩ := jm_ck _ _ hvc
    rw [← hcn] at hwd
    have hwN : w.toNat = vc.2.2 := by rw [← hN]; omega
    refine va_new (ci := cl.toNat) (fs := jm_fs ba ex cl.toNat h.1.length (List.replicate w.toNat (-1)) (jm_uc h.2 h.1.length (fun _ => 0))) (C := vc.1) (T := vc.2.1) (N := vc.2.2) hx hb (jm_Tsb hE args) hu ty hp hown hwd (jm_Tsb hE args _ (hi _ (by simp))) (jm_Tsb hE args _ (hi _ (by simp))) hE.2.2.2 hS.1 (jm_ws_D aC ba ex h) hS.2.2.1 (fun q hq => by show ba ≤ q; omega) hvc ?_ (by omega) (by omega) hdc (fun q H1 hP1 hD1 hS1 => ?_)
    · intro j hj
      have hjN : j < jm_N cl.toNat := by rw [hN]; exact hj
      unfold vp_V
      rw [List.getD_eq_getElem?_getD, jm_fs_at hjN, Option.getD_some]
      have hty := (htk j hj).1
      rcases hty with ⟨a1, a2⟩ | ⟨a1, a2⟩ | ⟨a1, a2⟩
      · rw [a2, if_neg (by omega), jm_uc_self]; rfl
      · rw [a2, if_neg (by omega), jm_uc_self]; rfl
      · rw [if_pos a1]
        have hg : (List.replicate w.toNat (-1 : Int)).getD j (-1) = -1 := by rw [List.getD_eq_getElem?_getD, List.getElem?_replicate]; split <;> rfl
        rw [hg]
        cases hk : ty j <;> rw [hk] at a2 <;> first | rfl | cases a2
    · refine jm_Wsz (fun hz => ?_)
      have hq := jm_new_at hD1 hP1 (by omega)
      subst hq
      have hent : (.inr (cl.toNat, jm_fs ba ex cl.toNat h.1.length (List.replicate w.toNat (-1)) (jm_uc h.2 h.1.length (fun _ => 0))) : va_E) = jm_ent aC ba ex h.1.length (10 + cl.toNat, w.toNat, List.replicate w.toNat (-1)) (jm_uc h.2 h.1.length (fun _ => 0)) := (jm_ent_o (q := (10 + cl.toNat, w.toNat, List.replicate w.toNat (-1))) rfl).symm
      rw [hent, jm_ws_new] at hP1
      rw [← hwN]
      have kk := hs e1 g1 H1 locs (cells + 1) (slots + w.toNat) ls ⟨hP1, jm_uc_r hS.2.1 jm_r0, hS1, by simp; omega, by simp [jm_tot_app]; omega, by simp; omega, by simp [jm_tot_app]; omega⟩ hL (List.forall_mem_cons.mpr ⟨trivial, hst⟩)
      rw [g2, List.map_cons, jm_len_ref] at kk
      exact kk
  · exact hs.elim

end JMN
