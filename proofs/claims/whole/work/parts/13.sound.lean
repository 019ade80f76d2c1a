section JMF
variable {p : Program} {l : Launch} {e : Env} {R : Room} {s : State} {m : MethodId} {args : Array Value} {below : List Frame} {meth : Method} {c : Code} {D : va_G} {aC : Nat → ClassId} {ba : Nat} {ex : Nat → Nat}
variable {X : jm_X} {n d : Nat} {B : Nat × Nat} {n0 t0 : Nat} {P : List jm_E} {Qz : State → Prop} {C : jm_C} {Q : jm_Q}
set_option maxHeartbeats 2000000 in
theorem jm_closed (hC : jm_Cx p R s m meth c D aC ba ex X n d B n0 t0) (hD : jm_ckD n P = true) (hP : jm_ckP n P = true)
    (hIH : ∀ (f : Nat) (vs : List jm_V) (h : jm_H) (Qk : jm_Q), f < 224 → C f vs h Qk → jm_Mt l D aC ba ex X d f vs h Qk)
    (hrI : ∀ (z : Int) (h : jm_H) (H : Heap) (locs : List Loc) (cells slots : Nat) (ls : Array Slot) (pc : Nat), decode (jm_co n) pc = .ok (.ireturn, 1) → jm_r z → (jm_re n = some .int ∨ (jm_re n = some .boolean ∧ (z = 0 ∨ z = 1))) → Q [.inl z] h → jm_Sim D aC ba ex s B n0 t0 h H locs cells slots → W p l e R s m args below meth c H locs cells slots Qz (F0 m pc ls [.int (Int32.ofInt z)]))
    (hrV : ∀ (h : jm_H) (H : Heap) (locs : List Loc) (cells slots : Nat) (ls : Array Slot) (pc : Nat), decode (jm_co n) pc = .ok (.return_, 1) → jm_re n = none → Q [] h → jm_Sim D aC ba ex s B n0 t0 h H locs cells slots → W p l e R s m args below meth c H locs cells slots Qz (F0 m pc ls []))
    (i : Nat) (en : jm_E) (L : jm_L) (st : List jm_V) (h : jm_H) (he : P[i]? = some en) (hs : jm_sem X C B Q (jm_It p l e R s m args below meth c D aC ba ex P n B n0 t0 Qz) en i L st h) : jm_It p l e R s m args below meth c D aC ba ex P n B n0 t0 Qz i L st h := by
  have hdc := jm_ckD_spec hD he
  have hck := jm_ckP_spec hP he
  obtain ⟨pc, ins, len, res⟩ := en
  dsimp only at hdc
  cases ins
  case ireturn =>
    intro e' he' H locs cells slots ls hS hL hst
    cases he.symm.trans he'
    simp only [jm_chk, Bool.and_eq_true, beq_iff_eq] at hck
    simp only [jm_sem] at hs
    obtain ⟨hc1, hc2⟩ := hck
    subst hc1
    split at hs
    · rename_i v t
      simp only [decide_eq_true_eq] at hc2
      have hv := hst _ List.mem_cons_self
      refine hrI v h H locs cells slots ls pc hdc hv ?_ hs.2 hS
      rcases hc2 with ⟨rfl, h2⟩ | ⟨rfl, h2⟩
      · exact Or.inl h2
      · rcases hs.1 with h3 | ⟨-, h3⟩
        · cases h3
        · exact Or.inr ⟨h2, h3⟩
    · exact hs.elim
  case return_ =>
    intro e' he' H locs cells slots ls hS hL hst
    cases he.symm.trans he'
    simp only [jm_chk, Bool.and_eq_true, beq_iff_eq, decide_eq_true_eq] at hck
    simp only [jm_sem] at hs
    obtain ⟨hc1, hc2⟩ := hck
    subst hc1
    split at hs
    · exact hrV h H locs cells slots ls pc hdc hc2 hs hS
    · exact hs.elim
  case iconst => exact jm_t_iconst hC he hdc hck hs
  case bipush => exact jm_t_bipush hC he hdc hck hs
  case sipush => exact jm_t_sipush hC he hdc hck hs
  case ldc => exact jm_t_ldc hC he hdc hck hs
  case ldc_w => exact jm_t_ldc_w hC he hdc hck hs
  case ldc2_w => exact jm_t_ldc2_w hC he hdc hck hs
  case lconst => exact jm_t_lconst hC he hdc hck hs
  case iload => exact jm_t_iload hC he hdc hck hs
  case iload_n => exact jm_t_iload_n hC he hdc hck hs
  case lload => exact jm_t_lload hC he hdc hck hs
  case lload_n => exact jm_t_lload_n hC he hdc hck hs
  case aload => exact jm_t_aload hC he hdc hck hs
  case aload_n => exact jm_t_aload_n hC he hdc hck hs
  case istore => exact jm_t_istore hC he hdc hck hs
  case istore_n => exact jm_t_istore_n hC he hdc hck hs
  case lstore => exact jm_t_lstore hC he hdc hck hs
  case lstore_n => exact jm_t_lstore_n hC he hdc hck hs
  case astore => exact jm_t_astore hC he hdc hck hs
  case astore_n => exact jm_t_astore_n hC he hdc hck hs
  case iinc => exact jm_t_iinc hC he hdc hck hs
  case iadd => exact jm_t_iadd hC he hdc hck hs
  case isub => exact jm_t_isub hC he hdc hck hs
  case imul => exact jm_t_imul hC he hdc hck hs
  case idiv => exact jm_t_idiv hC he hdc hck hs
  case irem => exact jm_t_irem hC he hdc hck hs
  case ineg => exact jm_t_ineg hC he hdc hck hs
  case iand => exact jm_t_iand hC he hdc hck hs
  case ior => exact jm_t_ior hC he hdc hck hs
  case ixor => exact jm_t_ixor hC he hdc hck hs
  case ishl => exact jm_t_ishl hC he hdc hck hs
  case ishr => exact jm_t_ishr hC he hdc hck hs
  case iushr => exact jm_t_iushr hC he hdc hck hs
  case i2l => exact jm_t_i2l hC he hdc hck hs
  case l2i => exact jm_t_l2i hC he hdc hck hs
  case i2b => exact jm_t_i2b hC he hdc hck hs
  case i2s => exact jm_t_i2s hC he hdc hck hs
  case ladd => exact jm_t_ladd hC he hdc hck hs
  case lmul => exact jm_t_lmul hC he hdc hck hs
  case lrem => exact jm_t_lrem hC he hdc hck hs
  case lcmp => exact jm_t_lcmp hC he hdc hck hs
  case dup => exact jm_t_dup hC he hdc hck hs
  case dup2 => exact jm_t_dup2 hC he hdc hck hs
  case pop => exact jm_t_pop hC he hdc hck hs
  case ifCond => exact jm_t_ifCond hC he hdc hck hs
  case if_icmp => exact jm_t_if_icmp hC he hdc hck hs
  case goto => exact jm_t_goto hC he hdc hck hs
  case tableswitch => exact jm_t_tableswitch hC he hdc hck hs
  case lookupswitch => exact jm_t_lookupswitch hC he hdc hck hs
  case getfield => exact jm_t_getfield hC he hdc hck hs
  case putfield => exact jm_t_putfield hC he hdc hck hs
  case getstatic => exact jm_t_getstatic hC he hdc hck hs
  case iaload => exact jm_t_iaload hC he hdc hck hs
  case baload => exact jm_t_baload hC he hdc hck hs
  case aaload => exact jm_t_aaload hC he hdc hck hs
  case iastore => exact jm_t_iastore hC he hdc hck hs
  case bastore => exact jm_t_bastore hC he hdc hck hs
  case aastore => exact jm_t_aastore hC he hdc hck hs
  case arraylength => exact jm_t_arraylength hC he hdc hck hs
  case newarray => exact jm_t_newarray hC he hdc hck hs
  case anewarray => exact jm_t_anewarray hC he hdc hck hs
  case new => exact jm_t_new hC he hdc hck hs
  case invokevirtual => exact jm_t_invokevirtual hIH hC he hdc hck hs
  case invokestatic => exact jm_t_invokestatic hIH hC he hdc hck hs
  case invokespecial => exact jm_t_invokespecial hIH hC he hdc hck hs
  all_goals exact absurd hs (by simp only [jm_sem]; exact id)
/-- the call of method f, in the small machine: at most d calls stand open at once -/
def jm_CW (X : jm_X) (PP : Nat → List jm_E) : Nat → jm_C
  | 0, _, _, _, _ => False
  | d + 1, f, vs, h, Q => (jm_loc vs).length ≤ jm_ma f ∧ jm_WP X (jm_CW X PP d) (h.1.length + jm_mc f, jm_tot h.1 + jm_ms f) (PP f) (fun v h' => jm_al f h h' ∧ Q v h') 0 (jm_loc vs ++ List.replicate (jm_ma f - (jm_loc vs).length) none) [] h
theorem jm_CW_mono (X : jm_X) (PP : Nat → List jm_E) : ∀ d, jm_mono (jm_CW X PP d)
  | 0 => fun _ _ _ _ _ _ q => q
  | _ + 1 => fun _ _ _ _ _ hQ q => ⟨q.1, jm_WP_Q (fun v h z => ⟨z.1, hQ v h z.2⟩) q.2⟩
/-- the programs are the methods' own -/
def jm_ckA (PP : Nat → List jm_E) : Prop := ∀ f, f < 224 → (jm_ckD f (PP f) = true ∧ jm_ckP f (PP f) = true ∧ jm_go (PP f) 0 0 = true)
theorem jm_entry {vs : List jm_V} {nL : Nat} (hl : (jm_loc vs).length ≤ nL) (hok : ∀ v ∈ vs, jm_ok v) : jm_LR ba ex ((lg_sl (vs.map (jm_rv ba ex)) ++ List.replicate (nL - (lg_sl (vs.map (jm_rv ba ex))).length) Slot.unset).toArray) nL (jm_loc vs ++ List.replicate (nL - (jm_loc vs).length) none) := by
  have h1 := lv_entry (vs.map (jm_rv ba ex)) (n := nL) (by rw [jm_loc_len]; exact hl)
  refine ⟨h1.1, h1.2.1, fun k v hk => ?_⟩
  by_cases hlt : k < (jm_loc vs).length
  · rw [List.getElem?_append_left hlt] at hk
    obtain ⟨a, b⟩ := jm_loc_entry ba ex vs 0 k v hk
    have h2 := h1.2.2 _ a
    rw [Nat.zero_add] at h2
    exact ⟨h2, hok v b⟩
  · rw [List.getElem?_append_right (by omega), List.getElem?_replicate] at hk
    split at hk <;> cases hk
set_option maxHeartbeats 1000000 in
theorem jm_sound {PP : Nat → List jm_E} (hPP : jm_ckA PP) (l : Launch) (D : va_G) (aC : Nat → ClassId) (ba : Nat) (ex : Nat → Nat) (X : jm_X) : ∀ (d f : Nat) (vs : List jm_V) (h : jm_H) (Q : jm_Q), f < 224 → jm_CW X PP d f vs h Q → jm_Mt l D aC ba ex X d f vs h Q
  | 0, _, _, _, _, _, hw => hw.elim
  | d + 1, f, vs, h, Q, hf, hw => by
    obtain ⟨hloc, hw⟩ := hw
    obtain ⟨m1, m2, m3, m4, m5, m6, m7, m8, m9, m10⟩ := jm_mok_spec hf
    obtain ⟨hckD, hckP, hgo⟩ := hPP f hf
    refine Met.ofW (cc := jm_co f) (maxL := jm_ma f) (ret := jm_re f) m3 rfl ?_
    intro p e s m args below meth c s₁ B hml hv
    obtain ⟨rfl, hE, hP, hrg, hsz, hXt, hok⟩ := hv
    have hlocks := B.notSynchronized
    have hown : s.vm.findClass (jm_CN (jm_ow f)) = some m.cls := by rw [m7]; exact findClass_of_methodNamed B.named
    have hC : jm_Cx p (jm_rm (d + 1) f) s m meth c D aC ba ex X f d (h.1.length + jm_mc f, jm_tot h.1 + jm_ms f) h.1.length (jm_tot h.1) :=
      ⟨B.exec, B.bytes, hml, hown, hE, hXt, hsz, fun hk => (name_of_methodNamed B.named B.method).1.trans (m9 hk).1, Nat.le_refl _, Nat.le_refl _, Nat.le_refl _, Nat.le_refl _⟩
    obtain ⟨e0, g1, g2⟩ := jm_go_spec hgo
    have hr := B.returns
    rw [lg_entry_eq]
    have key := hw (jm_It p l e (jm_rm (d + 1) f) s m (vs.map (jm_rv ba ex)).toArray below meth c D aC ba ex (PP f) f (h.1.length + jm_mc f, jm_tot h.1 + jm_ms f) h.1.length (jm_tot h.1) (MQ below (jm_Qc D aC ba ex f h Q) (vs.map (jm_rv ba ex)).toArray s (jm_mc f) (jm_ms f) (fun q => ba ≤ q)))
      (jm_closed hC hckD hckP (fun f' vs' h' Qk hf' hc => jm_sound hPP l D aC ba ex X d f' vs' h' Qk hf' hc) ?_ ?_)
    · have k2 := key e0 g1 s.heap [] 0 0 _ ⟨hP, hrg, va_S.rf, Nat.zero_add _, Nat.zero_add _, Nat.le_add_right _ _, Nat.le_add_right _ _⟩ (jm_entry hloc hok) (fun v hv => absurd hv List.not_mem_nil)
      rw [g2] at k2
      exact k2
    · intro z h' H locs cells slots ls pc hdc hz hty hq hS
      have hc1 : cells = jm_mc f := by have := hq.1.1; have := hS.2.2.2.1; omega
      have hc2 : slots = jm_ms f := by have := hq.1.2; have := hS.2.2.2.2.1; omega
      subst hc1 hc2
      have hqq : ∀ t : State, t.heap = H → s.WarmedH t.vm → jm_Qc D aC ba ex f h Q (vs.map (jm_rv ba ex)).toArray s (.returned (some (.int (Int32.ofInt z)))) t := fun t ht _ =>
        ⟨⟨[.inl z], h', hq.2, hq.1, rfl, Nat.le_refl _, by rw [ht]; exact hS.1, hS.2.1, fun x hx => by rw [List.mem_singleton.mp hx]; exact hz⟩, hS.2.2.1.F ht⟩
      rcases hty with hty | ⟨hty, h01⟩
      · exact W.iret B.exec B.bytes (hr.trans hty) hqq hS.2.2.1.2.2 hdc
      · exact W.zret B.exec B.bytes (hr.trans hty) (by rcases h01 with rfl | rfl <;> rfl) hqq hS.2.2.1.2.2 hdc
    · intro h' H locs cells slots ls pc hdc hty hq hS
      have hc1 : cells = jm_mc f := by have := hq.1.1; have := hS.2.2.2.1; omega
      have hc2 : slots = jm_ms f := by have := hq.1.2; have := hS.2.2.2.2.1; omega
      subst hc1 hc2
      exact W.vret B.exec B.bytes (hr.trans hty) (fun t ht _ => ⟨⟨[], h', hq.2, hq.1, rfl, Nat.zero_le _, by rw [ht]; exact hS.1, hS.2.1, fun x hx => absurd hx List.not_mem_nil⟩, hS.2.2.1.F ht⟩) hS.2.2.1.2.2 hdc
end JMF
