section JMH
variable {p : Program} {l : Launch} {e : Env} {R : Room} {s : State} {m : MethodId} {args : Array Value} {below : List Frame} {meth : Method} {c : Code} {D : va_G} {aC : Nat → ClassId} {ba : Nat} {ex : Nat → Nat}
variable {X : jm_X} {n d : Nat} {B : Nat × Nat} {n0 t0 : Nat} {P : List jm_E} {Qz : State → Prop} {C : jm_C} {Q : jm_Q}
theorem jm_ent_i {i : Nat} {q : jm_S} {μ : jm_M} (hq : q.1 < 2) : jm_ent aC ba ex i q μ = .inl (aC q.1, (q.2.1, .inl (fun j => Int32.ofInt (μ i j)))) := by simp [jm_ent, hq]
theorem jm_ent_q {i : Nat} {q : jm_S} {μ : jm_M} (h1 : 2 ≤ q.1) (h2 : q.1 < 10) : jm_ent aC ba ex i q μ = .inl (aC q.1, (q.2.1, .inr (.inr (.inr (.inr (fun j => jm_ro ba ex (μ i j))))))) := by
  have h3 : ¬ q.1 < 2 := by omega
  simp [jm_ent, h3, h2]
theorem jm_ent_o {i : Nat} {q : jm_S} {μ : jm_M} {cl : Nat} (h1 : q.1 = 10 + cl) : jm_ent aC ba ex i q μ = .inr (cl, jm_fs ba ex cl i q.2.2 μ) := by
  have h3 : ¬ q.1 < 2 := by omega
  have h4 : ¬ q.1 < 10 := by omega
  have h5 : q.1 - 10 = cl := by omega
  simp [jm_ent, h3, h4, h5]
theorem jm_fs_at {i cl k : Nat} {rf : List Int} {μ : jm_M} (hk : k < jm_N cl) : (jm_fs ba ex cl i rf μ)[k]? = some (if jm_fty cl k = 2 then va_rf (jm_ro ba ex (rf.getD k (-1))) else .int (Int32.ofInt (μ i k))) := by simp [jm_fs, hk]
theorem jm_fs_len {i cl : Nat} {rf : List Int} {μ : jm_M} : (jm_fs ba ex cl i rf μ).length = jm_N cl := by simp [jm_fs]
/-- the size of the heap, where there is a walk -/
theorem jm_Wsz {H : Heap} {locs : List Loc} {cells slots : Nat} {g : JFrame} (k : H.size ≤ s.heap.size + cells → W p l e R s m args below meth c H locs cells slots Qz g) : W p l e R s m args below meth c H locs cells slots Qz g :=
  fun T hT X => k (by rw [← hT]; exact X.heapSize) T hT X
theorem jm_ge {h : jm_H} {H : Heap} (hP : va_P D vwCl (jm_ws aC ba ex h) H) (h0 : ba ≤ H.size) : ba + h.1.length ≤ H.size := by
  by_cases hz : h.1.length = 0
  · omega
  · have hl : h.1.length - 1 < h.1.length := by omega
    have h1 := (hP _ _ (jm_ws_at (List.getElem?_eq_getElem hl))).lt
    dsimp only at h1
    omega
theorem jm_up_r {h : jm_H} (hr : ∀ i j, jm_r (h.2 i j)) {z k v : Int} (hv : jm_r v) : ∀ i j, jm_r (jm_uc h.2 z (jm_u1 (h.2 z) k v) i j) := by
  intro i j
  unfold jm_uc
  split
  · unfold jm_u1
    split
    · exact hv
    · exact hr z j
  · exact hr i j
theorem jm_uc_ne {μ : jm_M} {z a : Int} {f : Int → Int} (h : a ≠ z) : jm_uc μ z f a = μ a := by simp [jm_uc, h]
theorem jm_uc_self {μ : jm_M} {z : Int} {f : Int → Int} : jm_uc μ z f z = f := by simp [jm_uc]
set_option maxHeartbeats 1000000 in
theorem jm_t_getfield {x : Nat} (hC : jm_Cx p R s m meth c D aC ba ex X n d B n0 t0) {i : Nat} {pc len : Nat} {res : List Int} {L : jm_L} {st : List jm_V} {h : jm_H} (he : P[i]? = some (pc, .getfield x, len, res)) (hdc : decode (jm_co n) pc = .ok (.getfield x, len)) (hck : jm_chk n P i (pc, .getfield x, len, res) = true)
    (hs : jm_sem X C B Q (jm_It p l e R s m args below meth c D aC ba ex P n B n0 t0 Qz) (pc, .getfield x, len, res) i L st h) : jm_It p l e R s m args below meth c D aC ba ex P n B n0 t0 Qz i L st h := by
  intro e' he' H locs cells slots ls hS hL hst
  cases he.symm.trans he'
  obtain ⟨hx, hb, hml, hown, hE, hXt, hsz, hin, hfr, hlo, hBc, hBs⟩ := hC
  simp only [jm_chk, Bool.and_eq_true] at hck
  simp only [jm_sem] at hs
  obtain ⟨hc1, hc2⟩ := hck
  obtain ⟨hl1, e1, g1, g2⟩ := jm_c_spec hc1
  dsimp only at hl1 g2
  subst hl1
  split at hs
  · rename_i z r cl k t
    split at hs
    · rename_i q hq
      obtain ⟨⟨hz0, hk0⟩, hs⟩ := hs
      simp only [Bool.and_eq_true, decide_eq_true_eq] at hc2
      obtain ⟨⟨hkk, ht⟩, hany⟩ := hc2
      obtain ⟨w, hw, hw2⟩ := jm_any hany
      simp only [Bool.and_eq_true, beq_iff_eq] at hw2
      obtain ⟨w1, w2, w3, w4⟩ := hw2
      have hok := List.all_eq_true.mp jm_fl_ok w hw
      simp only [Bool.and_eq_true, decide_eq_true_eq] at hok
      have hwd := jm_word hE (jm_hw_in hok.1 _ List.mem_cons_self) rfl args
      unfold jm_flw at hwd
      rw [w1, w2, w3, w4] at hwd
      have hkN : k.toNat < jm_N cl.toNat := by rw [← w3, ← w4]; exact hok.2
      obtain ⟨vc, hvc⟩ := jm_lt_T _ _ hkN
      obtain ⟨hT, hN⟩ := jm_CN_T _ _ hvc
      obtain ⟨ty, -, -, hu, -⟩ := jm_ck _ _ hvc
      rw [hT] at hwd
      obtain ⟨vz, hst⟩ := List.forall_mem_cons.mp hst
      have hent := jm_ws_at (aC := aC) (ba := ba) (ex := ex) hq
      rw [jm_ent_o hk0] at hent
      have hkz : ((k.toNat : Nat) : Int) = k := Int.toNat_of_nonneg hkk
      have hzz : ((z.toNat : Nat) : Int) = z := Int.toNat_of_nonneg hz0
      have hfa := jm_fs_at (ba := ba) (ex := ex) (i := z.toNat) (rf := q.2.2) (μ := h.2) hkN
      rw [hkz, hzz] at hfa
      have kk := hs e1 g1 H locs cells slots ls hS hL (List.forall_mem_cons.mpr ⟨by split; exact trivial; exact hS.2.1 z k, hst⟩)
      rw [g2] at kk
      rw [List.map_cons, jm_rv_own hz0]
      refine va_get (C := vc.1) (T := vc.2.1) (N := vc.2.2) hx hb (jm_Tsb hE args) hu hown hE.2.2.2 hS.1 z.toNat hent hvc k.toNat (by rw [← hN]; exact hkN) hwd (fun _ q => q) hfa hdc ?_
      have ht2 : (t = 2) ↔ (jm_fty cl.toNat k.toNat = 2) := by omega
      by_cases h2 : jm_fty cl.toNat k.toNat = 2
      · rw [if_pos h2]
        rw [if_pos (ht2.mpr h2)] at kk
        exact kk
      · rw [if_neg h2]
        rw [if_neg (fun q => h2 (ht2.mp q))] at kk
        exact kk
    · exact hs.elim
  · exact hs.elim
set_option maxHeartbeats 1000000 in
theorem jm_t_putfield {x : Nat} (hC : jm_Cx p R s m meth c D aC ba ex X n d B n0 t0) {i : Nat} {pc len : Nat} {res : List Int} {L : jm_L} {st : List jm_V} {h : jm_H} (he : P[i]? = some (pc, .putfield x, len, res)) (hdc : decode (jm_co n) pc = .ok (.putfield x, len)) (hck : jm_chk n P i (pc, .putfield x, len, res) = true)
    (hs : jm_sem X C B Q (jm_It p l e R s m args below meth c D aC ba ex P n B n0 t0 Qz) (pc, .putfield x, len, res) i L st h) : jm_It p l e R s m args below meth c D aC ba ex P n B n0 t0 Qz i L st h := by
  intro e' he' H locs cells slots ls hS hL hst
  cases he.symm.trans he'
  obtain ⟨hx, hb, hml, hown, hE, hXt, hsz, hin, hfr, hlo, hBc, hBs⟩ := hC
  simp only [jm_chk, Bool.and_eq_true] at hck
  simp only [jm_sem] at hs
  obtain ⟨hc1, hc2⟩ := hck
  obtain ⟨hl1, e1, g1, g2⟩ := jm_c_spec hc1
  dsimp only at hl1 g2
  subst hl1
  -- what is common to the two kinds of store
  have common : ∀ (z : Int) (r : List jm_V) (cl k t : Int) (q : jm_S) (v : jm_V) (h' : jm_H), h.1[z.toNat]? = some q → 0 ≤ z → q.1 = 10 + cl.toNat → res = [cl, k, t] → (∀ v ∈ r, jm_ok v) →
      (∀ ty, ((jm_fty cl.toNat k.toNat = 0 ∧ ty = .int) ∨ (jm_fty cl.toNat k.toNat = 1 ∧ ty = .boolean) ∨ (jm_fty cl.toNat k.toNat = 2 ∧ (match ty with | .object _ => true | .array _ => true | _ => false) = true)) → narrow ty (jm_rv ba ex v) = jm_rv ba ex v ∧ fits ty (jm_rv ba ex v) = true) →
      (0 ≤ k → k.toNat < jm_N cl.toNat → (jm_ws aC ba ex h).set z.toNat (ba + z.toNat, .inr (cl.toNat, (jm_fs ba ex cl.toNat z.toNat q.2.2 h.2).set k.toNat (jm_rv ba ex v))) = jm_ws aC ba ex h') →
      (∀ i j, jm_r (h'.2 i j)) → h'.1.length = h.1.length → jm_tot h'.1 = jm_tot h.1 →
      jm_It p l e R s m args below meth c D aC ba ex P n B n0 t0 Qz (i + 1) L r h' → W p l e R s m args below meth c H locs cells slots Qz (F0 m pc ls (jm_rv ba ex v :: .ref (ba + z.toNat) :: r.map (jm_rv ba ex))) := by
    intro z r cl k t q v h' hq hz0 hk0 hres hr hty hws hrg hln htt kk
    subst hres
    simp only [Bool.and_eq_true, decide_eq_true_eq, Bool.or_eq_true, beq_iff_eq] at hc2
    obtain ⟨⟨hkk, ht⟩, hany, hfin⟩ := hc2
    obtain ⟨w, hw, hw2⟩ := jm_any hany
    simp only [Bool.and_eq_true, beq_iff_eq] at hw2
    obtain ⟨w1, w2, w3, w4⟩ := hw2
    have hok := List.all_eq_true.mp jm_fl_ok w hw
    simp only [Bool.and_eq_true, decide_eq_true_eq] at hok
    have hwd := jm_word hE (jm_hw_in hok.1 _ List.mem_cons_self) rfl args
    unfold jm_flw at hwd
    rw [w1, w2, w3, w4] at hwd
    have hkN : k.toNat < jm_N cl.toNat := by rw [← w3, ← w4]; exact hok.2
    obtain ⟨vc, hvc⟩ := jm_lt_T _ _ hkN
    obtain ⟨hT, hN⟩ := jm_CN_T _ _ hvc
    obtain ⟨ty, hp, hnm, hu, -, htk, hcn⟩ := jm_ck _ _ hvc
    rw [hT] at hwd hfin
    have hkN2 : k.toNat < vc.2.2 := by rw [← hN]; exact hkN
    have hent := jm_ws_at (aC := aC) (ba := ba) (ex := ex) hq
    rw [jm_ent_o hk0] at hent
    obtain ⟨hn1, hf1⟩ := hty (ty k.toNat) (htk _ hkN2).1
    have fin : ∀ (H1 : Heap) (locs1 : List Loc), va_P D vwCl ((jm_ws aC ba ex h).set z.toNat (ba + z.toNat, .inr (cl.toNat, (jm_fs ba ex cl.toNat z.toNat q.2.2 h.2).set k.toNat (jm_rv ba ex v)))) H1 → va_D (fun q => ba ≤ q) ((jm_ws aC ba ex h).set z.toNat (ba + z.toNat, .inr (cl.toNat, (jm_fs ba ex cl.toNat z.toNat q.2.2 h.2).set k.toNat (jm_rv ba ex v)))) → va_S (fun q => ba ≤ q) s.heap H1 locs1 → W p l e R s m args below meth c H1 locs1 cells slots Qz (F0 m (pc + 3) ls (r.map (jm_rv ba ex))) := by
      intro H1 locs1 a1 _ a3
      rw [hws hkk hkN] at a1
      have k3 := kk e1 g1 H1 locs1 cells slots ls ⟨a1, hrg, a3, by rw [hln]; exact hS.2.2.2.1, by rw [htt]; exact hS.2.2.2.2.1, by rw [hln]; exact hS.2.2.2.2.2.1, by rw [htt]; exact hS.2.2.2.2.2.2⟩ hL hr
      rw [g2] at k3
      exact k3
    rcases hfin with hfin | ⟨hfin1, hfin2⟩
    · exact va_put (C := vc.1) (T := vc.2.1) (N := vc.2.2) hx hb (jm_Tsb hE args) hu ty hp hnm hown hE.2.2.2 hS.1 (jm_ws_D aC ba ex h) hS.2.2.1 z.toNat hent hvc k.toNat hkN2 hwd (fun _ q => q) hfin (hp _ hkN2) hn1 hf1 (by rw [jm_fs_len]; exact hkN) hdc fin
    · by_cases hfb : (vc.2.1 k.toNat).2.2.2 = false
      · exact va_put (C := vc.1) (T := vc.2.1) (N := vc.2.2) hx hb (jm_Tsb hE args) hu ty hp hnm hown hE.2.2.2 hS.1 (jm_ws_D aC ba ex h) hS.2.2.1 z.toNat hent hvc k.toNat hkN2 hwd (fun _ q => q) hfb (hp _ hkN2) hn1 hf1 (by rw [jm_fs_len]; exact hkN) hdc fin
      · exact va_putF (C := vc.1) (T := vc.2.1) (N := vc.2.2) hx hb (jm_Tsb hE args) hu ty hp hnm hown hE.2.2.2 hS.1 (jm_ws_D aC ba ex h) hS.2.2.1 z.toNat hent hvc k.toNat hkN2 hwd (fun _ q => q) (by simpa using hfb) (hin hfin1) (by rw [(htk _ hkN2).2, hcn, hfin2]) (hp _ hkN2) hn1 hf1 (by rw [jm_fs_len]; exact hkN) hdc fin
  split at hs
  · rename_i v z r cl k t
    split at hs
    · rename_i q hq
      obtain ⟨⟨hz0, hk0⟩, hvt, hs⟩ := hs
      obtain ⟨vv, hst⟩ := List.forall_mem_cons.mp hst
      obtain ⟨-, hst⟩ := List.forall_mem_cons.mp hst
      have hzz : ((z.toNat : Nat) : Int) = z := Int.toNat_of_nonneg hz0
      have ht0 : t = (jm_fty cl.toNat k.toNat : Int) := by
        simp only [Bool.and_eq_true, decide_eq_true_eq] at hc2
        exact hc2.1.2
      rw [List.map_cons, List.map_cons, jm_rv_own hz0]
      refine common z r cl k t q (.inl v) (h.1, jm_uc h.2 z (jm_u1 (h.2 z) k v)) hq hz0 hk0 rfl hst ?_ ?_ (jm_up_r hS.2.1 vv) rfl rfl hs
      · intro ty hty
        rcases hty with ⟨a1, rfl⟩ | ⟨a1, rfl⟩ | ⟨a1, a2⟩
        · exact ⟨rfl, rfl⟩
        · rcases hvt with h9 | ⟨-, rfl | rfl⟩
          · omega
          · exact ⟨rfl, rfl⟩
          · exact ⟨rfl, rfl⟩
        · rcases hvt with h9 | ⟨h9, -⟩ <;> omega
      · intro hkk hkN
        have hkz : ((k.toNat : Nat) : Int) = k := Int.toNat_of_nonneg hkk
        refine jm_ws_set (h := h) (h' := (h.1, jm_uc h.2 z (jm_u1 (h.2 z) k v))) rfl hq ?_ (fun j hj => ⟨rfl, jm_uc_ne (by omega)⟩)
        rw [jm_ent_o hk0]
        congr 2
        apply List.ext_getElem?
        intro j
        by_cases hjk : j = k.toNat
        · subst hjk
          rw [List.getElem?_set_self (by rw [jm_fs_len]; exact hkN), jm_fs_at hkN, if_neg (by omega)]
          simp only [hzz, hkz, jm_uc_self, jm_u1, if_true]
          rfl
        · rw [List.getElem?_set_ne (Ne.symm hjk)]
          by_cases hjN : j < jm_N cl.toNat
          · rw [jm_fs_at hjN, jm_fs_at hjN]
            simp only [hzz, jm_uc_self, jm_u1]
            rw [if_neg (show ¬ (j : Int) = k by omega)]
          · rw [List.getElem?_eq_none (by rw [jm_fs_len]; omega), List.getElem?_eq_none (by rw [jm_fs_len]; omega)]
    · exact hs.elim
  · rename_i v z r cl k t
    split at hs
    · rename_i q hq
      obtain ⟨⟨hz0, hk0⟩, ⟨hv0, hvt, hkl⟩, hs⟩ := hs
      obtain ⟨vv, hst⟩ := List.forall_mem_cons.mp hst
      obtain ⟨-, hst⟩ := List.forall_mem_cons.mp hst
      have hzz : ((z.toNat : Nat) : Int) = z := Int.toNat_of_nonneg hz0
      have ht0 : t = (jm_fty cl.toNat k.toNat : Int) := by
        simp only [Bool.and_eq_true, decide_eq_true_eq] at hc2
        exact hc2.1.2
      have hzl : z.toNat < h.1.length := (List.getElem?_eq_some_iff.mp hq).1
      rw [List.map_cons, List.map_cons, jm_rv_own (z := z) hz0]
      have htot : ∀ (l : List jm_S) (i : Nat) (q q' : jm_S), l[i]? = some q → q'.2.1 = q.2.1 → jm_tot (l.set i q') = jm_tot l := by
        intro l
        induction l with
        | nil => intro i q q' h1; simp at h1
        | cons a l ih =>
          intro i q q' h1 h2
          cases i with
          | zero => simp at h1; subst h1; simp [jm_tot, h2]
          | succ i => simp only [List.getElem?_cons_succ] at h1; simp [jm_tot, ih i q q' h1 h2]
      refine common z r cl k t q (.inr (.inr v)) (h.1.set z.toNat (q.1, q.2.1, q.2.2.set k.toNat v), h.2) hq hz0 hk0 rfl hst ?_ ?_ hS.2.1 (by simp) (htot _ _ _ _ hq rfl) hs
      · intro ty hty
        rw [jm_rv_own hv0]
        rcases hty with ⟨a1, rfl⟩ | ⟨a1, rfl⟩ | ⟨a1, a2⟩
        · omega
        · omega
        · cases ty <;> first | exact ⟨rfl, rfl⟩ | cases a2
      · intro hkk hkN
        refine jm_ws_set (h := h) (h' := (h.1.set z.toNat (q.1, q.2.1, q.2.2.set k.toNat v), h.2)) (by simp) (s' := (q.1, q.2.1, q.2.2.set k.toNat v)) (by simp [hzl]) ?_ (fun j hj => ⟨by simp [Ne.symm hj], rfl⟩)
        rw [jm_ent_o (q := (q.1, q.2.1, q.2.2.set k.toNat v)) hk0]
        congr 2
        apply List.ext_getElem?
        intro j
        by_cases hjk : j = k.toNat
        · subst hjk
          rw [List.getElem?_set_self (by rw [jm_fs_len]; exact hkN), jm_fs_at hkN, if_pos (by omega)]
          simp [hkl, jm_rv]
        · rw [List.getElem?_set_ne (Ne.symm hjk)]
          by_cases hjN : j < jm_N cl.toNat
          · rw [jm_fs_at hjN, jm_fs_at hjN]
            simp [List.getElem?_set_ne (Ne.symm hjk)]
          · rw [List.getElem?_eq_none (by rw [jm_fs_len]; omega), List.getElem?_eq_none (by rw [jm_fs_len]; omega)]
    · exact hs.elim
  · exact hs.elim
end JMH
