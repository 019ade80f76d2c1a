section JMA
variable {p : Program} {l : Launch} {e : Env} {R : Room} {s : State} {m : MethodId} {args : Array Value} {below : List Frame} {meth : Method} {c : Code} {D : va_G} {aC : Nat → ClassId} {ba : Nat} {ex : Nat → Nat}
variable {X : jm_X} {n d : Nat} {B : Nat × Nat} {n0 t0 : Nat} {P : List jm_E} {Qz : State → Prop} {C : jm_C} {Q : jm_Q}
theorem jm_new_at {h : jm_H} {q : Nat} {en : va_E} {H1 : Heap} (hD : va_D (fun q => ba ≤ q) (jm_ws aC ba ex h ++ [(q, en)])) (hP : va_P D vwCl (jm_ws aC ba ex h ++ [(q, en)]) H1) (hz : H1.size ≤ ba + h.1.length + 1) : q = ba + h.1.length := by
  have hlast : (jm_ws aC ba ex h ++ [(q, en)])[h.1.length]? = some (q, en) := by rw [List.getElem?_append_right (by rw [jm_ws_len]; exact Nat.le_refl _), jm_ws_len, Nat.sub_self]; rfl
  have h1 := (hP _ _ hlast).lt
  have h2 : ba ≤ q := hD.2 _ _ hlast
  dsimp only at h1
  by_cases hlt : q < ba + h.1.length
  · exfalso
    have hi : q - ba < h.1.length := by omega
    have hold : (jm_ws aC ba ex h ++ [(q, en)])[q - ba]? = some (ba + (q - ba), jm_ent aC ba ex (q - ba) h.1[q - ba] h.2) := by rw [List.getElem?_append_left (by rw [jm_ws_len]; exact hi)]; exact jm_ws_at (List.getElem?_eq_getElem hi)
    have := hD.1 _ _ _ _ hold hlast (by dsimp only; omega)
    omega
  · omega
theorem jm_tot_app (a : List jm_S) (b : jm_S) : jm_tot (a ++ [b]) = jm_tot a + b.2.1 := by
  induction a with
  | nil => simp [jm_tot]
  | cons x a ih => simp only [List.cons_append, jm_tot, ih]; omega
theorem jm_uc_r {h : jm_H} (hr : ∀ i j, jm_r (h.2 i j)) {z v : Int} (hv : jm_r v) : ∀ i j, jm_r (jm_uc h.2 z (fun _ => v) i j) := by
  intro i j
  unfold jm_uc
  split
  · exact hv
  · exact hr i j
theorem jm_ref_of (z : Int) : jm_rv ba ex (.inr (.inr z)) = va_rf (jm_ro ba ex z) := rfl
theorem jm_len_ref (k : Nat) : jm_rv ba ex (.inr (.inr (k : Int))) = .ref (ba + k) := by rw [jm_rv_own (by omega)]; simp

set_option maxHeartbeats 1000000 in
theorem jm_t_getstatic {x : Nat} (hC : jm_Cx p R s m meth c D aC ba ex X n d B n0 t0) {i : Nat} {pc len : Nat} {res : List Int} {L : jm_L} {st : List jm_V} {h : jm_H} (he : P[i]? = some (pc, .getstatic x, len, res)) (hdc : decode (jm_co n) pc = .ok (.getstatic x, len)) (hck : jm_chk n P i (pc, .getstatic x, len, res) = true)
    (hs : jm_sem X C B Q (jm_It p l e R s m args below meth c D aC ba ex P n B n0 t0 Qz) (pc, .getstatic x, len, res) i L st h) : jm_It p l e R s m args below meth c D aC ba ex P n B n0 t0 Qz i L st h := by
  intro e' he' H locs cells slots ls hS hL hst
  cases he.symm.trans he'
  obtain ⟨hx, hb, hml, hown, hE, hXt, hsz, hin, hfr, hlo, hBc, hBs⟩ := hC
  simp only [jm_chk, Bool.and_eq_true] at hck
  simp only [jm_sem] at hs
  obtain ⟨hc1, hc2⟩ := hck
  obtain ⟨hl1, e1, g1, g2⟩ := jm_c_spec hc1
  dsimp only at hl1 g2
  subst hl1
  split at hs
  · rename_i k
    simp only [Bool.and_eq_true, decide_eq_true_eq] at hc2
    obtain ⟨hk3, hany⟩ := hc2
    obtain ⟨w, hw, hw2⟩ := jm_any hany
    simp only [Bool.and_eq_true, beq_iff_eq] at hw2
    obtain ⟨w1, w2, w3⟩ := hw2
    have hwd := jm_word hE (jm_hw_in (List.all_eq_true.mp jm_sl_ok w hw) _ List.mem_cons_self) rfl args
    unfold jm_slw at hwd
    rw [w1, w2, w3] at hwd
    have hlt : ∀ w ∈ jm_sl, w.2.2.1 < jm_sf.length := by decide
    have hk5 := hlt w hw
    rw [w3] at hk5
    have hsf : jm_sf[(-3 - k).toNat]? = some (jm_sf.getD (-3 - k).toNat ("", "", "")) := by rw [List.getD_eq_getElem?_getD, List.getElem?_eq_getElem hk5]; rfl
    have hZ := hXt.2 _ _ hsf
    have kk := hs e1 g1 H locs cells slots ls hS hL (List.forall_mem_cons.mpr ⟨trivial, hst⟩)
    rw [g2, List.map_cons, jm_rv_ext (by omega), show (-2 - k).toNat = (-3 - k).toNat + 1 by omega] at kk
    exact va_gets hx hb hZ hS.2.2.1 hown hwd (fun _ q => q) hdc kk
  · exact hs.elim

set_option maxHeartbeats 1000000 in
theorem jm_t_iaload (hC : jm_Cx p R s m meth c D aC ba ex X n d B n0 t0) {i : Nat} {pc len : Nat} {res : List Int} {L : jm_L} {st : List jm_V} {h : jm_H} (he : P[i]? = some (pc, .iaload, len, res)) (hdc : decode (jm_co n) pc = .ok (.iaload, len)) (hck : jm_chk n P i (pc, .iaload, len, res) = true)
    (hs : jm_sem X C B Q (jm_It p l e R s m args below meth c D aC ba ex P n B n0 t0 Qz) (pc, .iaload, len, res) i L st h) : jm_It p l e R s m args below meth c D aC ba ex P n B n0 t0 Qz i L st h := by
  intro e' he' H locs cells slots ls hS hL hst
  cases he.symm.trans he'
  obtain ⟨hx, hb, hml, hown, hE, hXt, hsz, hin, hfr, hlo, hBc, hBs⟩ := hC
  simp only [jm_chk] at hck
  simp only [jm_sem] at hs
  obtain ⟨hl1, e1, g1, g2⟩ := jm_c_spec hck
  dsimp only at hl1 g2
  subst hl1
  split at hs
  · rename_i j z r
    obtain ⟨vj, hst⟩ := List.forall_mem_cons.mp hst
    obtain ⟨-, hst⟩ := List.forall_mem_cons.mp hst
    have vj : jm_r j := vj
    split at hs
    · rename_i hz0
      split at hs
      · rename_i q hq
        obtain ⟨hk0, ⟨hj0, hj1⟩, hs⟩ := hs
        have hent := jm_ws_at (aC := aC) (ba := ba) (ex := ex) hq
        rw [jm_ent_i (by omega), hk0] at hent
        have hzz : ((z.toNat : Nat) : Int) = z := Int.toNat_of_nonneg hz0
        have kk := hs e1 g1 H locs cells slots ls hS hL (List.forall_mem_cons.mpr ⟨hS.2.1 z j, hst⟩)
        rw [g2] at kk
        rw [List.map_cons, List.map_cons, jm_rv_own hz0]
        refine va_iald hx hb hE.2.2.2 hS.1 z.toNat 0 hent rfl (jm_vin vj hj0 hj1) hdc ?_
        dsimp only
        rw [jm_nn vj, Int.toNat_of_nonneg hj0, hzz]
        exact kk
      · exact hs.elim
    · rename_i hz0
      obtain ⟨⟨hz1, hz2⟩, ⟨hj0, hj1⟩, hs⟩ := hs
      obtain ⟨hT, hN, hr⟩ := hXt.1 (-2 - z).toNat (by omega)
      have kk := hs e1 g1 H locs cells slots ls hS hL (List.forall_mem_cons.mpr ⟨hr j, hst⟩)
      rw [g2] at kk
      rw [List.map_cons, List.map_cons, jm_rv_ext hz1]
      refine va_ti hx hb hT hS.2.2.1 (jm_vin vj hj0 hj1) rfl hdc ?_
      rw [jm_nn vj, Int.toNat_of_nonneg hj0]
      exact kk
  · exact hs.elim

set_option maxHeartbeats 1000000 in
theorem jm_t_baload (hC : jm_Cx p R s m meth c D aC ba ex X n d B n0 t0) {i : Nat} {pc len : Nat} {res : List Int} {L : jm_L} {st : List jm_V} {h : jm_H} (he : P[i]? = some (pc, .baload, len, res)) (hdc : decode (jm_co n) pc = .ok (.baload, len)) (hck : jm_chk n P i (pc, .baload, len, res) = true)
    (hs : jm_sem X C B Q (jm_It p l e R s m args below meth c D aC ba ex P n B n0 t0 Qz) (pc, .baload, len, res) i L st h) : jm_It p l e R s m args below meth c D aC ba ex P n B n0 t0 Qz i L st h := by
  intro e' he' H locs cells slots ls hS hL hst
  cases he.symm.trans he'
  obtain ⟨hx, hb, hml, hown, hE, hXt, hsz, hin, hfr, hlo, hBc, hBs⟩ := hC
  simp only [jm_chk] at hck
  simp only [jm_sem] at hs
  obtain ⟨hl1, e1, g1, g2⟩ := jm_c_spec hck
  dsimp only at hl1 g2
  subst hl1
  split at hs
  · rename_i j z r
    obtain ⟨vj, hst⟩ := List.forall_mem_cons.mp hst
    obtain ⟨-, hst⟩ := List.forall_mem_cons.mp hst
    have vj : jm_r j := vj
    split at hs
    · rename_i q hq
      obtain ⟨⟨hz0, hk0⟩, ⟨hj0, hj1⟩, hs⟩ := hs
      have hent := jm_ws_at (aC := aC) (ba := ba) (ex := ex) hq
      rw [jm_ent_i (by omega), hk0] at hent
      have hzz : ((z.toNat : Nat) : Int) = z := Int.toNat_of_nonneg hz0
      have kk := hs e1 g1 H locs cells slots ls hS hL (List.forall_mem_cons.mpr ⟨hS.2.1 z j, hst⟩)
      rw [g2] at kk
      rw [List.map_cons, List.map_cons, jm_rv_own hz0]
      refine va_zald hx hb hE.2.2.2 hS.1 z.toNat 1 hent rfl (jm_vin vj hj0 hj1) hdc ?_
      dsimp only
      rw [jm_nn vj, Int.toNat_of_nonneg hj0, hzz]
      exact kk
    · exact hs.elim
  · exact hs.elim

set_option maxHeartbeats 1000000 in
theorem jm_t_aaload (hC : jm_Cx p R s m meth c D aC ba ex X n d B n0 t0) {i : Nat} {pc len : Nat} {res : List Int} {L : jm_L} {st : List jm_V} {h : jm_H} (he : P[i]? = some (pc, .aaload, len, res)) (hdc : decode (jm_co n) pc = .ok (.aaload, len)) (hck : jm_chk n P i (pc, .aaload, len, res) = true)
    (hs : jm_sem X C B Q (jm_It p l e R s m args below meth c D aC ba ex P n B n0 t0 Qz) (pc, .aaload, len, res) i L st h) : jm_It p l e R s m args below meth c D aC ba ex P n B n0 t0 Qz i L st h := by
  intro e' he' H locs cells slots ls hS hL hst
  cases he.symm.trans he'
  obtain ⟨hx, hb, hml, hown, hE, hXt, hsz, hin, hfr, hlo, hBc, hBs⟩ := hC
  simp only [jm_chk] at hck
  simp only [jm_sem] at hs
  obtain ⟨hl1, e1, g1, g2⟩ := jm_c_spec hck
  dsimp only at hl1 g2
  subst hl1
  split at hs
  · rename_i j z r
    obtain ⟨vj, hst⟩ := List.forall_mem_cons.mp hst
    obtain ⟨-, hst⟩ := List.forall_mem_cons.mp hst
    have vj : jm_r j := vj
    split at hs
    · rename_i q hq
      obtain ⟨⟨hz0, hk2, hk5⟩, ⟨hj0, hj1⟩, hs⟩ := hs
      have hent := jm_ws_at (aC := aC) (ba := ba) (ex := ex) hq
      rw [jm_ent_q hk2 (by omega)] at hent
      have hzz : ((z.toNat : Nat) : Int) = z := Int.toNat_of_nonneg hz0
      have kk := hs e1 g1 H locs cells slots ls hS hL (List.forall_mem_cons.mpr ⟨trivial, hst⟩)
      rw [g2, List.map_cons, jm_ref_of] at kk
      rw [List.map_cons, List.map_cons, jm_rv_own hz0]
      have hty : ∃ Cn, (jm_tys aC)[q.1]? = some (aC q.1, .object Cn) := by
        obtain ⟨q1, q2⟩ := q
        dsimp only at hk2 hk5 ⊢
        rcases (show q1 = 2 ∨ q1 = 3 ∨ q1 = 4 by omega) with rfl | rfl | rfl
        · exact ⟨_, rfl⟩
        · exact ⟨_, rfl⟩
        · exact ⟨_, rfl⟩
      obtain ⟨Cn, hty⟩ := hty
      refine va_aldq hx hb hE.2.2.2 hS.1 z.toNat q.1 hent hty (jm_vin vj hj0 hj1) hdc ?_
      dsimp only
      rw [jm_nn vj, Int.toNat_of_nonneg hj0, hzz]
      exact kk
    · exact hs.elim
  · exact hs.elim

set_option maxHeartbeats 1000000 in
theorem jm_t_iastore (hC : jm_Cx p R s m meth c D aC ba ex X n d B n0 t0) {i : Nat} {pc len : Nat} {res : List Int} {L : jm_L} {st : List jm_V} {h : jm_H} (he : P[i]? = some (pc, .iastore, len, res)) (hdc : decode (jm_co n) pc = .ok (.iastore, len)) (hck : jm_chk n P i (pc, .iastore, len, res) = true)
    (hs : jm_sem X C B Q (jm_It p l e R s m args below meth c D aC ba ex P n B n0 t0 Qz) (pc, .iastore, len, res) i L st h) : jm_It p l e R s m args below meth c D aC ba ex P n B n0 t0 Qz i L st h := by
  intro e' he' H locs cells slots ls hS hL hst
  cases he.symm.trans he'
  obtain ⟨hx, hb, hml, hown, hE, hXt, hsz, hin, hfr, hlo, hBc, hBs⟩ := hC
  simp only [jm_chk] at hck
  simp only [jm_sem] at hs
  obtain ⟨hl1, e1, g1, g2⟩ := jm_c_spec hck
  dsimp only at hl1 g2
  subst hl1
  split at hs
  · rename_i v j z r
    obtain ⟨vv, hst⟩ := List.forall_mem_cons.mp hst
    obtain ⟨vj, hst⟩ := List.forall_mem_cons.mp hst
    obtain ⟨-, hst⟩ := List.forall_mem_cons.mp hst
    have vj : jm_r j := vj
    split at hs
    · rename_i q hq
      obtain ⟨⟨hz0, hk0⟩, ⟨hj0, hj1⟩, hs⟩ := hs
      have hent := jm_ws_at (aC := aC) (ba := ba) (ex := ex) hq
      rw [jm_ent_i (by omega), hk0] at hent
      have hzz : ((z.toNat : Nat) : Int) = z := Int.toNat_of_nonneg hz0
      rw [List.map_cons, List.map_cons, List.map_cons, jm_rv_own hz0]
      refine va_iast hx hb hE.2.2.2 hS.1 (jm_ws_D aC ba ex h) hS.2.2.1 z.toNat 0 hent rfl (jm_vin vj hj0 hj1) hdc (fun H1 locs1 a1 _ a3 => ?_)
      have hset : (jm_ws aC ba ex h).set z.toNat (ba + z.toNat, .inl (aC 0, q.2.1, .inl (upd (fun j => Int32.ofInt (h.2 z.toNat j)) (Int32.ofInt j).toNatClampNeg (Int32.ofInt v)))) = jm_ws aC ba ex (h.1, jm_uc h.2 z (jm_u1 (h.2 z) j v)) := by
        refine jm_ws_set rfl hq ?_ (fun b hb => ⟨rfl, jm_uc_ne (by omega)⟩)
        rw [jm_ent_i (by omega), hk0, jm_nn vj]
        congr 4
        funext b
        simp only [hzz, jm_uc_self, jm_u1, upd]
        by_cases hbj : b = j.toNat
        · rw [if_pos hbj, if_pos (show (b : Int) = j by omega)]
          try rfl
        · rw [if_neg hbj, if_neg (show ¬ (b : Int) = j by omega)]
      rw [hset] at a1
      have kk := hs e1 g1 H1 locs1 cells slots ls ⟨a1, jm_up_r hS.2.1 vv, a3, hS.2.2.2⟩ hL hst
      rw [g2] at kk
      exact kk
    · exact hs.elim
  · exact hs.elim

set_option maxHeartbeats 1000000 in
theorem jm_t_bastore (hC : jm_Cx p R s m meth c D aC ba ex X n d B n0 t0) {i : Nat} {pc len : Nat} {res : List Int} {L : jm_L} {st : List jm_V} {h : jm_H} (he : P[i]? = some (pc, .bastore, len, res)) (hdc : decode (jm_co n) pc = .ok (.bastore, len)) (hck : jm_chk n P i (pc, .bastore, len, res) = true)
    (hs : jm_sem X C B Q (jm_It p l e R s m args below meth c D aC ba ex P n B n0 t0 Qz) (pc, .bastore, len, res) i L st h) : jm_It p l e R s m args below meth c D aC ba ex P n B n0 t0 Qz i L st h := by
  intro e' he' H locs cells slots ls hS hL hst
  cases he.symm.trans he'
  obtain ⟨hx, hb, hml, hown, hE, hXt, hsz, hin, hfr, hlo, hBc, hBs⟩ := hC
  simp only [jm_chk] at hck
  simp only [jm_sem] at hs
  obtain ⟨hl1, e1, g1, g2⟩ := jm_c_spec hck
  dsimp only at hl1 g2
  subst hl1
  split at hs
  · rename_i v j z r
    obtain ⟨vv, hst⟩ := List.forall_mem_cons.mp hst
    obtain ⟨vj, hst⟩ := List.forall_mem_cons.mp hst
    obtain ⟨-, hst⟩ := List.forall_mem_cons.mp hst
    have vj : jm_r j := vj
    split at hs
    · rename_i q hq
      obtain ⟨⟨hz0, hk0⟩, ⟨hj0, hj1⟩, hvb, hs⟩ := hs
      have hent := jm_ws_at (aC := aC) (ba := ba) (ex := ex) hq
      rw [jm_ent_i (by omega), hk0] at hent
      have hzz : ((z.toNat : Nat) : Int) = z := Int.toNat_of_nonneg hz0
      rw [List.map_cons, List.map_cons, List.map_cons, jm_rv_own hz0]
      refine va_zast hx hb hE.2.2.2 hS.1 (jm_ws_D aC ba ex h) hS.2.2.1 z.toNat 1 hent rfl (jm_vin vj hj0 hj1) hdc (fun H1 locs1 a1 _ a3 => ?_)
      have hset : (jm_ws aC ba ex h).set z.toNat (ba + z.toNat, .inl (aC 1, q.2.1, .inl (upd (fun j => Int32.ofInt (h.2 z.toNat j)) (Int32.ofInt j).toNatClampNeg (vp_nar .boolean (Int32.ofInt v))))) = jm_ws aC ba ex (h.1, jm_uc h.2 z (jm_u1 (h.2 z) j v)) := by
        refine jm_ws_set rfl hq ?_ (fun b hb => ⟨rfl, jm_uc_ne (by omega)⟩)
        rw [jm_ent_i (by omega), hk0, jm_nn vj]
        congr 4
        funext b
        simp only [hzz, jm_uc_self, jm_u1, upd]
        by_cases hbj : b = j.toNat
        · rw [if_pos hbj, if_pos (show (b : Int) = j by omega)]
          rcases hvb with rfl | rfl <;> rfl
        · rw [if_neg hbj, if_neg (show ¬ (b : Int) = j by omega)]
      rw [hset] at a1
      have kk := hs e1 g1 H1 locs1 cells slots ls ⟨a1, jm_up_r hS.2.1 vv, a3, hS.2.2.2⟩ hL hst
      rw [g2] at kk
      exact kk
    · exact hs.elim
  · exact hs.elim

set_option maxHeartbeats 1000000 in
theorem jm_t_aastore (hC : jm_Cx p R s m meth c D aC ba ex X n d B n0 t0) {i : Nat} {pc len : Nat} {res : List Int} {L : jm_L} {st : List jm_V} {h : jm_H} (he : P[i]? = some (pc, .aastore, len, res)) (hdc : decode (jm_co n) pc = .ok (.aastore, len)) (hck : jm_chk n P i (pc, .aastore, len, res) = true)
    (hs : jm_sem X C B Q (jm_It p l e R s m args below meth c D aC ba ex P n B n0 t0 Qz) (pc, .aastore, len, res) i L st h) : jm_It p l e R s m args below meth c D aC ba ex P n B n0 t0 Qz i L st h := by
  intro e' he' H locs cells slots ls hS hL hst
  cases he.symm.trans he'
  obtain ⟨hx, hb, hml, hown, hE, hXt, hsz, hin, hfr, hlo, hBc, hBs⟩ := hC
  simp only [jm_chk] at hck
  simp only [jm_sem] at hs
  obtain ⟨hl1, e1, g1, g2⟩ := jm_c_spec hck
  dsimp only at hl1 g2
  subst hl1
  split at hs
  · rename_i v j z r
    obtain ⟨vv, hst⟩ := List.forall_mem_cons.mp hst
    obtain ⟨vj, hst⟩ := List.forall_mem_cons.mp hst
    obtain ⟨-, hst⟩ := List.forall_mem_cons.mp hst
    have vj : jm_r j := vj
    split at hs
    · rename_i q w hq hw
      obtain ⟨⟨hz0, ⟨hv0, hv1⟩, hkd⟩, ⟨hj0, hj1⟩, hs⟩ := hs
      have hent := jm_ws_at (aC := aC) (ba := ba) (ex := ex) hq
      rw [jm_ent_q (by omega) (by omega)] at hent
      have henv := jm_ws_at (aC := aC) (ba := ba) (ex := ex) hw
      have hzz : ((z.toNat : Nat) : Int) = z := Int.toNat_of_nonneg hz0
      have hvl : v.toNat < h.1.length := (List.getElem?_eq_some_iff.mp hw).1
      rw [List.map_cons, List.map_cons, List.map_cons, jm_rv_own (z := z) hz0, jm_rv_own (z := v) hv0]
      have fin : ∀ (H1 : Heap) (locs1 : List Loc), jm_r v → va_P D vwCl ((jm_ws aC ba ex h).set z.toNat (ba + z.toNat, .inl (aC q.1, q.2.1, .inr (.inr (.inr (.inr (va_up (fun j => jm_ro ba ex (h.2 z.toNat j)) (Int32.ofInt j).toNatClampNeg (some (ba + v.toNat))))))))) H1 → va_S (fun q => ba ≤ q) s.heap H1 locs1 → W p l e R s m args below meth c H1 locs1 cells slots Qz (F0 m (pc + 1) ls (r.map (jm_rv ba ex))) := by
        intro H1 locs1 hrv a1 a3
        have hset : (jm_ws aC ba ex h).set z.toNat (ba + z.toNat, .inl (aC q.1, q.2.1, .inr (.inr (.inr (.inr (va_up (fun j => jm_ro ba ex (h.2 z.toNat j)) (Int32.ofInt j).toNatClampNeg (some (ba + v.toNat)))))))) = jm_ws aC ba ex (h.1, jm_uc h.2 z (jm_u1 (h.2 z) j v)) := by
          refine jm_ws_set rfl hq ?_ (fun b hb => ⟨rfl, jm_uc_ne (by omega)⟩)
          rw [jm_ent_q (by omega) (by omega), jm_nn vj]
          congr 7
          funext b
          simp only [hzz, jm_uc_self, jm_u1, va_up]
          by_cases hbj : b = j.toNat
          · rw [if_pos hbj, if_pos (show (b : Int) = j by omega)]
            simp [jm_ro, hv0]
          · rw [if_neg hbj, if_neg (show ¬ (b : Int) = j by omega)]
        rw [hset] at a1
        have kk := hs e1 g1 H1 locs1 cells slots ls ⟨a1, jm_up_r hS.2.1 hrv, a3, hS.2.2.2⟩ hL hst
        rw [g2] at kk
        exact kk
      have hrv : jm_r v := ⟨by omega, by omega⟩
      rcases hkd with ⟨k1, k2⟩ | ⟨k1, k2⟩ | ⟨k1, k2⟩
      · rw [jm_ent_o (cl := 5) (by omega)] at henv
        exact va_astq hx hb hE.2.2.2 hS.1 (jm_ws_D aC ba ex h) hS.2.2.1 z.toNat 2 v.toNat 5 hent (by rw [k1]; rfl) henv rfl (jm_vin vj hj0 hj1) hdc (fun H1 locs1 a1 _ a3 => fin H1 locs1 hrv a1 a3)
      · rw [jm_ent_o (cl := 1) (by omega)] at henv
        exact va_astq hx hb hE.2.2.2 hS.1 (jm_ws_D aC ba ex h) hS.2.2.1 z.toNat 3 v.toNat 1 hent (by rw [k1]; rfl) henv rfl (jm_vin vj hj0 hj1) hdc (fun H1 locs1 a1 _ a3 => fin H1 locs1 hrv a1 a3)
      · rw [jm_ent_o (cl := 4) (by omega)] at henv
        exact va_astq hx hb hE.2.2.2 hS.1 (jm_ws_D aC ba ex h) hS.2.2.1 z.toNat 4 v.toNat 4 hent (by rw [k1]; rfl) henv rfl (jm_vin vj hj0 hj1) hdc (fun H1 locs1 a1 _ a3 => fin H1 locs1 hrv a1 a3)
    · exact hs.elim
  · exact hs.elim

set_option maxHeartbeats 1000000 in
theorem jm_t_arraylength (hC : jm_Cx p R s m meth c D aC ba ex X n d B n0 t0) {i : Nat} {pc len : Nat} {res : List Int} {L : jm_L} {st : List jm_V} {h : jm_H} (he : P[i]? = some (pc, .arraylength, len, res)) (hdc : decode (jm_co n) pc = .ok (.arraylength, len)) (hck : jm_chk n P i (pc, .arraylength, len, res) = true)
    (hs : jm_sem X C B Q (jm_It p l e R s m args below meth c D aC ba ex P n B n0 t0 Qz) (pc, .arraylength, len, res) i L st h) : jm_It p l e R s m args below meth c D aC ba ex P n B n0 t0 Qz i L st h := by
  intro e' he' H locs cells slots ls hS hL hst
  cases he.symm.trans he'
  obtain ⟨hx, hb, hml, hown, hE, hXt, hsz, hin, hfr, hlo, hBc, hBs⟩ := hC
  simp only [jm_chk] at hck
  simp only [jm_sem] at hs
  obtain ⟨hl1, e1, g1, g2⟩ := jm_c_spec hck
  dsimp only at hl1 g2
  subst hl1
  split at hs
  · rename_i z r
    obtain ⟨-, hst⟩ := List.forall_mem_cons.mp hst
    obtain ⟨⟨hz1, hz2⟩, hs⟩ := hs
    obtain ⟨hT, hN, hr⟩ := hXt.1 (-2 - z).toNat (by omega)
    have kk := hs e1 g1 H locs cells slots ls hS hL (List.forall_mem_cons.mpr ⟨⟨by omega, by omega⟩, hst⟩)
    rw [g2] at kk
    rw [List.map_cons, jm_rv_ext hz1]
    exact va_tlen hx hb hT hS.2.2.1 (by rw [← Int32.ofInt_eq_ofNat]) hdc kk
  · exact hs.elim

end JMA
