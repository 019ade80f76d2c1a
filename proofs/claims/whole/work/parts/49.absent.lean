set_option maxRecDepth 10000 in
theorem mo_ways_l {X : jm_X} {d : Nat} {Q : jv_P} {t : Int → Int} {q c wt xa xb a : Int} {μ : jm_M} (hU : jU μ t) (w1 : 0 ≤ t 1 ∧ t 1 ≤ 6) (hc : 0 ≤ c ∧ c ≤ 10) (ha : 0 ≤ a ∧ a < 64) (k : ∀ w : Int, jV X (d + 1) jm_p_X10_absent Q 63 [some (.inr (.inr 94)), some (.inl q), some (.inl c), some (.inl wt), some (.inl xa), some (.inl xb), some (.inl a), some (.inl (jwt (jnb a) c (t 1).toNat)), some (.inl w)] [] μ) : ∀ (n : Nat) (y w : Int), 0 ≤ w → w ≤ t 1 → t 1 - w < n → y = jwt (jnb a) c w.toNat → jV X (d + 1) jm_p_X10_absent Q 43 [some (.inr (.inr 94)), some (.inl q), some (.inl c), some (.inl wt), some (.inl xa), some (.inl xb), some (.inl a), some (.inl y), some (.inl w)] [] μ := by
  intro n
  induction n with
  | zero => intro y w y0 y1 yn ey; exfalso; omega
  | succ n ih =>
    intro y w y0 y1 yn ey
    have u1μ := hU 1 (by decide) (by decide)
    have e := jwt_r (b := jnb a) hc.1 hc.2 w.toNat
    have e2 := jz_p10 w.toNat (by omega)
    have q1 := jz_m10 (y := y) (v := 10 - c) (K := 1000000) (by omega) (by omega) (by omega) (by omega)
    have q2 := jz_m10 (y := y) (v := c) (K := 1000000) (by omega) (by omega) (by omega) (by omega)
    refine jv_iload rfl rfl rfl ?_
    refine jv_aload_n rfl rfl rfl (by decide) ?_
    refine jv_getr (w := 95) rfl rfl rfl ⟨by decide, rfl⟩ rfl rfl ?_
    refine jv_iconst rfl rfl ?_
    refine jv_iaload rfl rfl (by decide) rfl ⟨by omega, by omega⟩ ?_
    refine jv_icmp_ge rfl rfl rfl (fun c48 => ?_) (fun c48 => ?_)
    · have hw : w = t 1 := by omega
      rw [ey, hw]
      exact k _
    · refine jv_iload rfl rfl rfl ?_
      refine jv_iload rfl rfl rfl ?_
      refine jv_iload rfl rfl rfl ?_
      refine jv_callS2 rfl rfl rfl (Nat.le_of_ble_eq_true rfl) (mo_has (fun b52 => ?_) (fun b52 => ?_))
      · show jV _ _ jm_p_X10_absent _ 53 [some (.inr (.inr 94)), some (.inl q), some (.inl c), some (.inl wt), some (.inl xa), some (.inl xb), some (.inl a), some (.inl y), some (.inl w)] [.inl 1, .inl y] μ
        refine jv_if_eqF rfl rfl (by decide) ?_
        refine jv_iload_n rfl rfl rfl ?_
        refine jv_goto rfl rfl ?_
        refine jv_imul rfl rfl ⟨by omega, by omega⟩ ?_
        refine jv_istore (fun x => [some (.inr (.inr 94)), some (.inl q), some (.inl c), some (.inl wt), some (.inl xa), some (.inl xb), some (.inl a), some (.inl x), some (.inl w)]) rfl rfl (fun _ => rfl) (fun x7_60 ex7_60 => ?_)
        refine jv_iinc (fun x => [some (.inr (.inr 94)), some (.inl q), some (.inl c), some (.inl wt), some (.inl xa), some (.inl xb), some (.inl a), some (.inl x7_60), some (.inl x)]) rfl rfl rfl ⟨by omega, by omega⟩ (fun _ => rfl) (fun x8_61 ex8_61 => ?_)
        refine jv_goto rfl rfl ?_
        refine ih x7_60 x8_61 (by omega) (by omega) (by omega) ?_
        rw [ex8_61, show (w + 1).toNat = w.toNat + 1 by omega]
        simp only [jwt]
        rw [show ((w.toNat : Nat) : Int) = w by omega, ex7_60, ey]
        first
        | rw [if_neg (fun z => (jnb_iff ha.1 ha.2 y0 (by omega)).1 z b52)]
        | rw [if_pos ((jnb_iff ha.1 ha.2 y0 (by omega)).2 b52)]
      · show jV _ _ jm_p_X10_absent _ 53 [some (.inr (.inr 94)), some (.inl q), some (.inl c), some (.inl wt), some (.inl xa), some (.inl xb), some (.inl a), some (.inl y), some (.inl w)] [.inl 0, .inl y] μ
        refine jv_if_eqT rfl rfl (by decide) ?_
        refine jv_bipush rfl rfl ?_
        refine jv_iload_n rfl rfl rfl ?_
        refine jv_isub rfl rfl ⟨by omega, by omega⟩ ?_
        refine jv_imul rfl rfl ⟨by omega, by omega⟩ ?_
        refine jv_istore (fun x => [some (.inr (.inr 94)), some (.inl q), some (.inl c), some (.inl wt), some (.inl xa), some (.inl xb), some (.inl a), some (.inl x), some (.inl w)]) rfl rfl (fun _ => rfl) (fun x7_60_1 ex7_60_1 => ?_)
        refine jv_iinc (fun x => [some (.inr (.inr 94)), some (.inl q), some (.inl c), some (.inl wt), some (.inl xa), some (.inl xb), some (.inl a), some (.inl x7_60_1), some (.inl x)]) rfl rfl rfl ⟨by omega, by omega⟩ (fun _ => rfl) (fun x8_61_1 ex8_61_1 => ?_)
        refine jv_goto rfl rfl ?_
        refine ih x7_60_1 x8_61_1 (by omega) (by omega) (by omega) ?_
        rw [ex8_61_1, show (w + 1).toNat = w.toNat + 1 by omega]
        simp only [jwt]
        rw [show ((w.toNat : Nat) : Int) = w by omega, ex7_60_1, ey]
        first
        | rw [if_neg (fun z => (jnb_iff ha.1 ha.2 y0 (by omega)).1 z b52)]
        | rw [if_pos ((jnb_iff ha.1 ha.2 y0 (by omega)).2 b52)]
set_option maxRecDepth 10000 in
theorem mo_absent_l {X : jm_X} {d : Nat} {Q : jv_P} {t : Int → Int} {q c wt : Int} {μ0 : jm_M} (hU0 : jU μ0 t) (hw : jt_wf t) (hcf : jt_cf t 99990) (hc : 0 ≤ c ∧ c ≤ 10) (k : ∀ (a : Int) (o7 o8 : Option jm_V) (μ2 : jm_M), jr μ0 μ2 → jV X (d + 4) jm_p_X10_absent Q 82 [some (.inr (.inr 94)), some (.inl q), some (.inl c), some (.inl wt), some (.inl (jA t q c)), some (.inl ((10 : Int) ^ (t 1).toNat)), some (.inl a), o7, o8] [] μ2) : ∀ (n : Nat) (xa xb a : Int) (o7 o8 : Option jm_V) (μ : jm_M), 0 ≤ a → a ≤ ((2 ^ (t 1).toNat : Nat) : Int) → ((2 ^ (t 1).toNat : Nat) : Int) - a < n → xa = jsum (fun a => jF t q c (jnb a)) a.toNat → xb = jsum (fun a => jwt (jnb a) c (t 1).toNat) a.toNat → jr μ0 μ → jV X (d + 4) jm_p_X10_absent Q 31 [some (.inr (.inr 94)), some (.inl q), some (.inl c), some (.inl wt), some (.inl xa), some (.inl xb), some (.inl a), o7, o8] [] μ := by
  intro n
  induction n with
  | zero => intro xa xb a o7 o8 μ y0 y1 yn ea eb hf; exfalso; omega
  | succ n ih =>
    intro xa xb a o7 o8 μ y0 y1 yn ea eb hf
    have hUμ := jU_jr hf hU0
    have u1μ := hUμ 1 (by decide) (by decide)
    obtain ⟨w0, w1, w2, w3, w4, w6, w7, w8⟩ := id hw
    have hN := jN_le (n := (t 1).toNat) (by omega)
    have eN : jm_shl 1 (μ 95 1) = ((2 ^ (t 1).toNat : Nat) : Int) := by rw [u1μ]; exact jb_shl w1.1 w1.2
    have hr := jsum_r (F := fun a => jF t q c (jnb a)) a.toNat (fun x _ => jF_r w1.2 hc.1 hc.2)
    have hwr := jwt_r (b := jnb a) hc.1 hc.2 (t 1).toNat
    have hwp := jz_p10 (t 1).toNat (by omega)
    have hr2 := jsum_r (F := fun a => jwt (jnb a) c (t 1).toNat) a.toNat (fun x _ => by
      have q := jwt_r (b := jnb x) hc.1 hc.2 (t 1).toNat
      show 0 ≤ jwt (jnb x) c (t 1).toNat ∧ jwt (jnb x) c (t 1).toNat ≤ 1000000
      omega)
    refine jv_iload rfl rfl rfl ?_
    refine jv_iconst rfl rfl ?_
    refine jv_aload_n rfl rfl rfl (by decide) ?_
    refine jv_getr (w := 95) rfl rfl rfl ⟨by decide, rfl⟩ rfl rfl ?_
    refine jv_iconst rfl rfl ?_
    refine jv_iaload rfl rfl (by decide) rfl ⟨by omega, by omega⟩ ?_
    refine jv_ishl rfl rfl ?_
    refine jv_icmp_ge rfl rfl rfl (fun c38 => ?_) (fun c38 => ?_)
    · have hw : a = ((2 ^ (t 1).toNat : Nat) : Int) := by omega
      have za : xa = jA t q c := by rw [ea, hw]; exact jA_away w1
      have zb : xb = (10 : Int) ^ (t 1).toNat := by rw [eb, hw]; exact jW_away w1 hc.1 hc.2
      rw [za, zb]
      exact k _ _ _ _ hf
    · refine jv_iconst rfl rfl ?_
      refine jv_istoreK (L2 := [some (.inr (.inr 94)), some (.inl q), some (.inl c), some (.inl wt), some (.inl xa), some (.inl xb), some (.inl a), some (.inl 1), o8]) rfl rfl rfl ?_
      refine jv_iconst rfl rfl ?_
      refine jv_istoreK (L2 := [some (.inr (.inr 94)), some (.inl q), some (.inl c), some (.inl wt), some (.inl xa), some (.inl xb), some (.inl a), some (.inl 1), some (.inl 0)]) rfl rfl rfl ?_
      refine mo_ways_l hUμ w1 hc (by omega) (fun w8v => ?_) 9 1 0 (by omega) w1.1 (by omega) rfl
      refine jv_aload_n rfl rfl rfl (by decide) ?_
      refine jv_callV0 rfl rfl rfl rfl ⟨by decide, rfl⟩ (Nat.le_of_ble_eq_true rfl) (mo_layTried hUμ (fun μ64 fμ64 tμ64 => ?_))
      show jV _ _ jm_p_X10_absent _ 65 [some (.inr (.inr 94)), some (.inl q), some (.inl c), some (.inl wt), some (.inl xa), some (.inl xb), some (.inl a), some (.inl (jwt (jnb a) c (t 1).toNat)), some (.inl w8v)] [] μ64
      have hUμ64 := jU_jr fμ64 hUμ
      have u0μ64 := hUμ64 0 (by decide) (by decide)
      have u1μ64 := hUμ64 1 (by decide) (by decide)
      refine jv_iload rfl rfl rfl ?_
      refine jv_aload_n rfl rfl rfl (by decide) ?_
      refine jv_iload rfl rfl rfl ?_
      refine jv_callV1 rfl rfl rfl rfl ⟨by decide, rfl⟩ (Nat.le_of_ble_eq_true rfl) (mo_comeAll (b := jnb a) (la := fun p => p) hUμ64 hw (jS_id t) hcf w0.2 w1 (fun c c0 c1 => jnb_iff y0 (by omega) c0 c1) tμ64 (fun μ68 fμ68 tμ68 => ?_))
      show jV _ _ jm_p_X10_absent _ 69 [some (.inr (.inr 94)), some (.inl q), some (.inl c), some (.inl wt), some (.inl xa), some (.inl xb), some (.inl a), some (.inl (jwt (jnb a) c (t 1).toNat)), some (.inl w8v)] [.inl ((jc (jnb a) t (t 1).toNat).1), .inl xa] μ68
      refine jv_iload_n rfl rfl rfl ?_
      refine jv_icmp_gt rfl rfl rfl (fun c70 => ?_) (fun c70 => ?_)
      · refine jv_iconst rfl rfl ?_
        refine jv_iadd rfl rfl ⟨by omega, by omega⟩ ?_
        refine jv_istore (fun x => [some (.inr (.inr 94)), some (.inl q), some (.inl c), some (.inl wt), some (.inl x), some (.inl xb), some (.inl a), some (.inl (jwt (jnb a) c (t 1).toNat)), some (.inl w8v)]) rfl rfl (fun _ => rfl) (fun x4_75 ex4_75 => ?_)
        refine jv_iload rfl rfl rfl ?_
        refine jv_iload rfl rfl rfl ?_
        refine jv_iadd rfl rfl ⟨by omega, by omega⟩ ?_
        refine jv_istore (fun x => [some (.inr (.inr 94)), some (.inl q), some (.inl c), some (.inl wt), some (.inl x4_75), some (.inl x), some (.inl a), some (.inl (jwt (jnb a) c (t 1).toNat)), some (.inl w8v)]) rfl rfl (fun _ => rfl) (fun x5_79 ex5_79 => ?_)
        refine jv_iinc (fun x => [some (.inr (.inr 94)), some (.inl q), some (.inl c), some (.inl wt), some (.inl x4_75), some (.inl x5_79), some (.inl x), some (.inl (jwt (jnb a) c (t 1).toNat)), some (.inl w8v)]) rfl rfl rfl ⟨by omega, by omega⟩ (fun _ => rfl) (fun x6_80 ex6_80 => ?_)
        refine jv_goto rfl rfl ?_
        refine ih x4_75 x5_79 x6_80 _ _ μ68 (by omega) (by omega) (by omega) ?_ ?_ (jr_tr (jr_tr hf fμ64) fμ68)
        · rw [ex6_80, show (a + 1).toNat = a.toNat + 1 by omega]
          simp only [jsum]
          rw [show ((a.toNat : Nat) : Int) = a by omega, ex4_75, ← ea]
          unfold jF
          first
          | rw [if_pos (by omega)]
          | rw [if_neg (by omega)]
        · rw [ex6_80, show (a + 1).toNat = a.toNat + 1 by omega]
          simp only [jsum]
          rw [show ((a.toNat : Nat) : Int) = a by omega, ex5_79, ← eb]
      · refine jv_iload rfl rfl rfl ?_
        refine jv_goto rfl rfl ?_
        refine jv_iadd rfl rfl ⟨by omega, by omega⟩ ?_
        refine jv_istore (fun x => [some (.inr (.inr 94)), some (.inl q), some (.inl c), some (.inl wt), some (.inl x), some (.inl xb), some (.inl a), some (.inl (jwt (jnb a) c (t 1).toNat)), some (.inl w8v)]) rfl rfl (fun _ => rfl) (fun x4_75_1 ex4_75_1 => ?_)
        refine jv_iload rfl rfl rfl ?_
        refine jv_iload rfl rfl rfl ?_
        refine jv_iadd rfl rfl ⟨by omega, by omega⟩ ?_
        refine jv_istore (fun x => [some (.inr (.inr 94)), some (.inl q), some (.inl c), some (.inl wt), some (.inl x4_75_1), some (.inl x), some (.inl a), some (.inl (jwt (jnb a) c (t 1).toNat)), some (.inl w8v)]) rfl rfl (fun _ => rfl) (fun x5_79_1 ex5_79_1 => ?_)
        refine jv_iinc (fun x => [some (.inr (.inr 94)), some (.inl q), some (.inl c), some (.inl wt), some (.inl x4_75_1), some (.inl x5_79_1), some (.inl x), some (.inl (jwt (jnb a) c (t 1).toNat)), some (.inl w8v)]) rfl rfl rfl ⟨by omega, by omega⟩ (fun _ => rfl) (fun x6_80_1 ex6_80_1 => ?_)
        refine jv_goto rfl rfl ?_
        refine ih x4_75_1 x5_79_1 x6_80_1 _ _ μ68 (by omega) (by omega) (by omega) ?_ ?_ (jr_tr (jr_tr hf fμ64) fμ68)
        · rw [ex6_80_1, show (a + 1).toNat = a.toNat + 1 by omega]
          simp only [jsum]
          rw [show ((a.toNat : Nat) : Int) = a by omega, ex4_75_1, ← ea]
          unfold jF
          first
          | rw [if_pos (by omega)]
          | rw [if_neg (by omega)]
        · rw [ex6_80_1, show (a + 1).toNat = a.toNat + 1 by omega]
          simp only [jsum]
          rw [show ((a.toNat : Nat) : Int) = a by omega, ex5_79_1, ← eb]
set_option maxRecDepth 10000 in
theorem mo_euclid_l {X : jm_X} {d : Nat} {Q : jv_P} {q c wt xa xb g : Int} {μ : jm_M} (k : ∀ (z : Int) (o8 : Option jm_V), jV X d jm_p_X10_absent Q 97 [some (.inr (.inr 94)), some (.inl q), some (.inl c), some (.inl wt), some (.inl xa), some (.inl xb), some (.inl g), some (.inl z), o8] [] μ) : ∀ (n : Nat) (y z : Int) (o8 : Option jm_V), 0 ≤ y → 0 ≤ z → z < n → jeu n y z = g → jV X d jm_p_X10_absent Q 86 [some (.inr (.inr 94)), some (.inl q), some (.inl c), some (.inl wt), some (.inl xa), some (.inl xb), some (.inl y), some (.inl z), o8] [] μ := by
  intro n
  induction n with
  | zero => intro y z o8 y0 z0 zn hg; exfalso; omega
  | succ n ih =>
    intro y z o8 y0 z0 zn hg
    refine jv_iload rfl rfl rfl ?_
    refine jv_if_eq rfl rfl rfl (fun c87 => ?_) (fun c87 => ?_)
    · have e : z = 0 := by omega
      rw [e, jeu_0] at hg
      rw [hg]
      exact k _ _
    · refine jv_iload rfl rfl rfl ?_
      refine jv_iload rfl rfl rfl ?_
      refine jv_irem rfl rfl ⟨by omega, by omega⟩ ?_
      refine jv_istore (fun x => [some (.inr (.inr 94)), some (.inl q), some (.inl c), some (.inl wt), some (.inl xa), some (.inl xb), some (.inl y), some (.inl z), some (.inl x)]) rfl rfl (fun _ => rfl) (fun x8_91 ex8_91 => ?_)
      refine jv_iload rfl rfl rfl ?_
      refine jv_istore (fun x => [some (.inr (.inr 94)), some (.inl q), some (.inl c), some (.inl wt), some (.inl xa), some (.inl xb), some (.inl x), some (.inl z), some (.inl x8_91)]) rfl rfl (fun _ => rfl) (fun x6_93 ex6_93 => ?_)
      refine jv_iload rfl rfl rfl ?_
      refine jv_istore (fun x => [some (.inr (.inr 94)), some (.inl q), some (.inl c), some (.inl wt), some (.inl xa), some (.inl xb), some (.inl x6_93), some (.inl x), some (.inl x8_91)]) rfl rfl (fun _ => rfl) (fun x7_95 ex7_95 => ?_)
      refine jv_goto rfl rfl ?_
      have r0 := Int.emod_nonneg y (show z ≠ 0 by omega)
      have r1 := Int.emod_lt_of_pos y (show 0 < z by omega)
      refine ih x6_93 x7_95 _ (by omega) (by omega) (by omega) ?_
      simp only [jeu] at hg
      rw [if_neg (by omega)] at hg
      rw [ex6_93, ex7_95, ex8_91]
      exact hg
set_option maxRecDepth 10000 in
set_option maxHeartbeats 1000000 in
theorem pr_absent {X : jm_X} {q : Int} {c : Int} {y : Int} (r_q : jm_r q) (r_c : jm_r c) (r_y : jm_r y) : jp X 114 202 [.inl q, .inl c, .inl y] := by
  intro μ hI
  obtain ⟨⟨hit, hlan⟩, ⟨ht0, ht1, ht2⟩, ⟨hr0, hr1, hr2⟩, ⟨hst, hfa⟩, htown, hidle, himg, hpast⟩ := id hI
  obtain ⟨hwf, hcf, hkd, hmat, hrel, hh01, hhot, hnc⟩ := id htown
  obtain ⟨⟨r0, r1, r2, r3⟩, rm, rz, rc⟩ := id hrel
  obtain ⟨w0, w1, w2, w3, w4, w6, w7, w8⟩ := id hwf
  have hcf9 : jt_cf (μ 95) 99990 := fun c a b => by have q := hcf c a b; omega
  have hHμ := jH_of hI
  have hsh : jm_shl 1 (μ 7 3) = jm_shl 1 (μ 95 1) := by rw [r3]
  have hs6 := jb_shl6 w1.1 w1.2
  have hs4 := jb_shl4 w0.1 w0.2
  refine jv_enter (d := 199) jm_p_X9_absent [some (.inr (.inr 0)), some (.inl q), some (.inl c), some (.inl y)] rfl rfl rfl (Nat.le_of_ble_eq_true rfl) rfl rfl ?_
  refine jv_aload_n rfl rfl rfl (by decide) ?_
  refine jv_callV0 rfl rfl rfl rfl ⟨by decide, rfl⟩ (Nat.le_of_ble_eq_true rfl) (cl_noHotel (fun b1 => ?_) (fun b1 => ?_))
  · show jV _ _ jm_p_X9_absent _ 2 [some (.inr (.inr 0)), some (.inl q), some (.inl c), some (.inl y)] [.inl 1] μ
    refine jv_if_eqF rfl rfl (by decide) ?_
    refine jv_ldc rfl rfl ?_
    refine jv_ireturn rfl (Or.inl rfl) ?_
    refine ⟨_, rfl, ?_⟩
    have fc : jf μ μ := jf_id μ
    have hUμ : jU μ (μ 95) := jU_jf fc
    have q94μ : μ 94 1 = μ 94 1 := by rw [fc 94 (by omega)]
    refine jv_enter (d := 199) jm_p_X10_absent [some (.inr (.inr 94)), some (.inl q), some (.inl c), some (.inl y), none, none, none, none, none] rfl rfl rfl (Nat.le_of_ble_eq_true rfl) rfl rfl ?_
    refine jv_aload_n rfl rfl rfl (by decide) ?_
    refine jv_geti rfl rfl rfl ⟨by decide, rfl⟩ (by decide) ?_
    refine jv_if_ne rfl rfl rfl (fun c2 => ?_) (fun c2 => ?_)
    · first
      | (exfalso; omega)
      | skip
        refine jv_iload_n rfl rfl rfl ?_
        refine jv_i2l rfl rfl ?_
        refine jv_lconst rfl rfl ?_
        refine jv_ldc2_w rfl rfl ?_
        refine jv_callS3 rfl rfl rfl (Nat.le_of_ble_eq_true rfl) (mo_in (fun b9 => ?_) (fun b9 => ?_))
        · first
          | (exfalso; omega)
          | skip
            show jV _ _ jm_p_X10_absent _ 10 [some (.inr (.inr 94)), some (.inl q), some (.inl c), some (.inl y), none, none, none, none, none] [.inl 1] μ
            refine jv_if_eqF rfl rfl (by decide) ?_
            refine jv_iload_n rfl rfl rfl ?_
            refine jv_i2l rfl rfl ?_
            refine jv_lconst rfl rfl ?_
            refine jv_ldc2_w rfl rfl ?_
            refine jv_callS3 rfl rfl rfl (Nat.le_of_ble_eq_true rfl) (mo_in (fun b15 => ?_) (fun b15 => ?_))
            · first
              | (exfalso; omega)
              | skip
                show jV _ _ jm_p_X10_absent _ 16 [some (.inr (.inr 94)), some (.inl q), some (.inl c), some (.inl y), none, none, none, none, none] [.inl 1] μ
                refine jv_if_eqF rfl rfl (by decide) ?_
                refine jv_iload_n rfl rfl rfl ?_
                refine jv_i2l rfl rfl ?_
                refine jv_lconst rfl rfl ?_
                refine jv_lconst rfl rfl ?_
                refine jv_callS3 rfl rfl rfl (Nat.le_of_ble_eq_true rfl) (mo_in (fun b21 => ?_) (fun b21 => ?_))
                · first
                  | (exfalso; omega)
                  | skip
                    show jV _ _ jm_p_X10_absent _ 22 [some (.inr (.inr 94)), some (.inl q), some (.inl c), some (.inl y), none, none, none, none, none] [.inl 1] μ
                    refine jv_if_neT rfl rfl (by decide) ?_
                    refine jv_iconst rfl rfl ?_
                    refine jv_istoreK (L2 := [some (.inr (.inr 94)), some (.inl q), some (.inl c), some (.inl y), some (.inl 0), none, none, none, none]) rfl rfl rfl ?_
                    refine jv_iconst rfl rfl ?_
                    refine jv_istoreK (L2 := [some (.inr (.inr 94)), some (.inl q), some (.inl c), some (.inl y), some (.inl 0), some (.inl 0), none, none, none]) rfl rfl rfl ?_
                    refine jv_iconst rfl rfl ?_
                    refine jv_istoreK (L2 := [some (.inr (.inr 94)), some (.inl q), some (.inl c), some (.inl y), some (.inl 0), some (.inl 0), some (.inl 0), none, none]) rfl rfl rfl ?_
                    exfalso; omega
                · first
                  | (exfalso; omega)
                  | skip
                    show jV _ _ jm_p_X10_absent _ 22 [some (.inr (.inr 94)), some (.inl q), some (.inl c), some (.inl y), none, none, none, none, none] [.inl 0] μ
                    refine jv_if_neF rfl rfl (by decide) ?_
                    refine jv_ldc rfl rfl ?_
                    refine jv_ireturn rfl (Or.inl rfl) ?_
                    exact ⟨jv_one (by omega), jI_pair hI fc (jr_id _)⟩
            · first
              | (exfalso; omega)
              | skip
                show jV _ _ jm_p_X10_absent _ 16 [some (.inr (.inr 94)), some (.inl q), some (.inl c), some (.inl y), none, none, none, none, none] [.inl 0] μ
                refine jv_if_eqT rfl rfl (by decide) ?_
                refine jv_ldc rfl rfl ?_
                refine jv_ireturn rfl (Or.inl rfl) ?_
                exact ⟨jv_one (by omega), jI_pair hI fc (jr_id _)⟩
        · first
          | (exfalso; omega)
          | skip
            show jV _ _ jm_p_X10_absent _ 10 [some (.inr (.inr 94)), some (.inl q), some (.inl c), some (.inl y), none, none, none, none, none] [.inl 0] μ
            refine jv_if_eqT rfl rfl (by decide) ?_
            refine jv_ldc rfl rfl ?_
            refine jv_ireturn rfl (Or.inl rfl) ?_
            exact ⟨jv_one (by omega), jI_pair hI fc (jr_id _)⟩
    · first
      | (exfalso; omega)
      | skip
        refine jv_ldc rfl rfl ?_
        refine jv_ireturn rfl (Or.inl rfl) ?_
        exact ⟨jv_one (by omega), jI_pair hI fc (jr_id _)⟩
  · show jV _ _ jm_p_X9_absent _ 2 [some (.inr (.inr 0)), some (.inl q), some (.inl c), some (.inl y)] [.inl 0] μ
    refine jv_if_eqT rfl rfl (by decide) ?_
    refine jv_iload_n rfl rfl rfl ?_
    refine jv_callS1 rfl rfl rfl (Nat.le_of_ble_eq_true rfl) (cl_noCarried (fun b6 => ?_) (fun b6 => ?_))
    · show jV _ _ jm_p_X9_absent _ 7 [some (.inr (.inr 0)), some (.inl q), some (.inl c), some (.inl y)] [.inl 1] μ
      refine jv_if_neT rfl rfl (by decide) ?_
      refine jv_ldc rfl rfl ?_
      refine jv_ireturn rfl (Or.inl rfl) ?_
      refine ⟨_, rfl, ?_⟩
      have fc : jf μ μ := jf_id μ
      have hUμ : jU μ (μ 95) := jU_jf fc
      have q94μ : μ 94 1 = μ 94 1 := by rw [fc 94 (by omega)]
      refine jv_enter (d := 199) jm_p_X10_absent [some (.inr (.inr 94)), some (.inl q), some (.inl c), some (.inl y), none, none, none, none, none] rfl rfl rfl (Nat.le_of_ble_eq_true rfl) rfl rfl ?_
      refine jv_aload_n rfl rfl rfl (by decide) ?_
      refine jv_geti rfl rfl rfl ⟨by decide, rfl⟩ (by decide) ?_
      refine jv_if_ne rfl rfl rfl (fun c2 => ?_) (fun c2 => ?_)
      · first
        | (exfalso; omega)
        | skip
          refine jv_iload_n rfl rfl rfl ?_
          refine jv_i2l rfl rfl ?_
          refine jv_lconst rfl rfl ?_
          refine jv_ldc2_w rfl rfl ?_
          refine jv_callS3 rfl rfl rfl (Nat.le_of_ble_eq_true rfl) (mo_in (fun b9 => ?_) (fun b9 => ?_))
          · first
            | (exfalso; omega)
            | skip
              show jV _ _ jm_p_X10_absent _ 10 [some (.inr (.inr 94)), some (.inl q), some (.inl c), some (.inl y), none, none, none, none, none] [.inl 1] μ
              refine jv_if_eqF rfl rfl (by decide) ?_
              refine jv_iload_n rfl rfl rfl ?_
              refine jv_i2l rfl rfl ?_
              refine jv_lconst rfl rfl ?_
              refine jv_ldc2_w rfl rfl ?_
              refine jv_callS3 rfl rfl rfl (Nat.le_of_ble_eq_true rfl) (mo_in (fun b15 => ?_) (fun b15 => ?_))
              · first
                | (exfalso; omega)
                | skip
                  show jV _ _ jm_p_X10_absent _ 16 [some (.inr (.inr 94)), some (.inl q), some (.inl c), some (.inl y), none, none, none, none, none] [.inl 1] μ
                  refine jv_if_eqF rfl rfl (by decide) ?_
                  refine jv_iload_n rfl rfl rfl ?_
                  refine jv_i2l rfl rfl ?_
                  refine jv_lconst rfl rfl ?_
                  refine jv_lconst rfl rfl ?_
                  refine jv_callS3 rfl rfl rfl (Nat.le_of_ble_eq_true rfl) (mo_in (fun b21 => ?_) (fun b21 => ?_))
                  · first
                    | (exfalso; omega)
                    | skip
                      show jV _ _ jm_p_X10_absent _ 22 [some (.inr (.inr 94)), some (.inl q), some (.inl c), some (.inl y), none, none, none, none, none] [.inl 1] μ
                      refine jv_if_neT rfl rfl (by decide) ?_
                      refine jv_iconst rfl rfl ?_
                      refine jv_istoreK (L2 := [some (.inr (.inr 94)), some (.inl q), some (.inl c), some (.inl y), some (.inl 0), none, none, none, none]) rfl rfl rfl ?_
                      refine jv_iconst rfl rfl ?_
                      refine jv_istoreK (L2 := [some (.inr (.inr 94)), some (.inl q), some (.inl c), some (.inl y), some (.inl 0), some (.inl 0), none, none, none]) rfl rfl rfl ?_
                      refine jv_iconst rfl rfl ?_
                      refine jv_istoreK (L2 := [some (.inr (.inr 94)), some (.inl q), some (.inl c), some (.inl y), some (.inl 0), some (.inl 0), some (.inl 0), none, none]) rfl rfl rfl ?_
                      exfalso; omega
                  · first
                    | (exfalso; omega)
                    | skip
                      show jV _ _ jm_p_X10_absent _ 22 [some (.inr (.inr 94)), some (.inl q), some (.inl c), some (.inl y), none, none, none, none, none] [.inl 0] μ
                      refine jv_if_neF rfl rfl (by decide) ?_
                      refine jv_ldc rfl rfl ?_
                      refine jv_ireturn rfl (Or.inl rfl) ?_
                      exact ⟨jv_one (by omega), jI_pair hI fc (jr_id _)⟩
              · first
                | (exfalso; omega)
                | skip
                  show jV _ _ jm_p_X10_absent _ 16 [some (.inr (.inr 94)), some (.inl q), some (.inl c), some (.inl y), none, none, none, none, none] [.inl 0] μ
                  refine jv_if_eqT rfl rfl (by decide) ?_
                  refine jv_ldc rfl rfl ?_
                  refine jv_ireturn rfl (Or.inl rfl) ?_
                  exact ⟨jv_one (by omega), jI_pair hI fc (jr_id _)⟩
          · first
            | (exfalso; omega)
            | skip
              show jV _ _ jm_p_X10_absent _ 10 [some (.inr (.inr 94)), some (.inl q), some (.inl c), some (.inl y), none, none, none, none, none] [.inl 0] μ
              refine jv_if_eqT rfl rfl (by decide) ?_
              refine jv_ldc rfl rfl ?_
              refine jv_ireturn rfl (Or.inl rfl) ?_
              exact ⟨jv_one (by omega), jI_pair hI fc (jr_id _)⟩
      · first
        | (exfalso; omega)
        | skip
          refine jv_ldc rfl rfl ?_
          refine jv_ireturn rfl (Or.inl rfl) ?_
          exact ⟨jv_one (by omega), jI_pair hI fc (jr_id _)⟩
    · show jV _ _ jm_p_X9_absent _ 7 [some (.inr (.inr 0)), some (.inl q), some (.inl c), some (.inl y)] [.inl 0] μ
      refine jv_if_neF rfl rfl (by decide) ?_
      refine jv_iload_n rfl rfl rfl ?_
      refine jv_if_lt rfl rfl rfl (fun c9 => ?_) (fun c9 => ?_)
      · refine jv_ldc rfl rfl ?_
        refine jv_ireturn rfl (Or.inl rfl) ?_
        refine ⟨_, rfl, ?_⟩
        have fc : jf μ μ := jf_id μ
        have hUμ : jU μ (μ 95) := jU_jf fc
        have q94μ : μ 94 1 = μ 94 1 := by rw [fc 94 (by omega)]
        refine jv_enter (d := 199) jm_p_X10_absent [some (.inr (.inr 94)), some (.inl q), some (.inl c), some (.inl y), none, none, none, none, none] rfl rfl rfl (Nat.le_of_ble_eq_true rfl) rfl rfl ?_
        refine jv_aload_n rfl rfl rfl (by decide) ?_
        refine jv_geti rfl rfl rfl ⟨by decide, rfl⟩ (by decide) ?_
        refine jv_if_ne rfl rfl rfl (fun c2 => ?_) (fun c2 => ?_)
        · first
          | (exfalso; omega)
          | skip
            refine jv_iload_n rfl rfl rfl ?_
            refine jv_i2l rfl rfl ?_
            refine jv_lconst rfl rfl ?_
            refine jv_ldc2_w rfl rfl ?_
            refine jv_callS3 rfl rfl rfl (Nat.le_of_ble_eq_true rfl) (mo_in (fun b9 => ?_) (fun b9 => ?_))
            · first
              | (exfalso; omega)
              | skip
                show jV _ _ jm_p_X10_absent _ 10 [some (.inr (.inr 94)), some (.inl q), some (.inl c), some (.inl y), none, none, none, none, none] [.inl 1] μ
                refine jv_if_eqF rfl rfl (by decide) ?_
                refine jv_iload_n rfl rfl rfl ?_
                refine jv_i2l rfl rfl ?_
                refine jv_lconst rfl rfl ?_
                refine jv_ldc2_w rfl rfl ?_
                refine jv_callS3 rfl rfl rfl (Nat.le_of_ble_eq_true rfl) (mo_in (fun b15 => ?_) (fun b15 => ?_))
                · first
                  | (exfalso; omega)
                  | skip
                    show jV _ _ jm_p_X10_absent _ 16 [some (.inr (.inr 94)), some (.inl q), some (.inl c), some (.inl y), none, none, none, none, none] [.inl 1] μ
                    refine jv_if_eqF rfl rfl (by decide) ?_
                    refine jv_iload_n rfl rfl rfl ?_
                    refine jv_i2l rfl rfl ?_
                    refine jv_lconst rfl rfl ?_
                    refine jv_lconst rfl rfl ?_
                    refine jv_callS3 rfl rfl rfl (Nat.le_of_ble_eq_true rfl) (mo_in (fun b21 => ?_) (fun b21 => ?_))
                    · first
                      | (exfalso; omega)
                      | skip
                        show jV _ _ jm_p_X10_absent _ 22 [some (.inr (.inr 94)), some (.inl q), some (.inl c), some (.inl y), none, none, none, none, none] [.inl 1] μ
                        refine jv_if_neT rfl rfl (by decide) ?_
                        refine jv_iconst rfl rfl ?_
                        refine jv_istoreK (L2 := [some (.inr (.inr 94)), some (.inl q), some (.inl c), some (.inl y), some (.inl 0), none, none, none, none]) rfl rfl rfl ?_
                        refine jv_iconst rfl rfl ?_
                        refine jv_istoreK (L2 := [some (.inr (.inr 94)), some (.inl q), some (.inl c), some (.inl y), some (.inl 0), some (.inl 0), none, none, none]) rfl rfl rfl ?_
                        refine jv_iconst rfl rfl ?_
                        refine jv_istoreK (L2 := [some (.inr (.inr 94)), some (.inl q), some (.inl c), some (.inl y), some (.inl 0), some (.inl 0), some (.inl 0), none, none]) rfl rfl rfl ?_
                        exfalso; omega
                    · first
                      | (exfalso; omega)
                      | skip
                        show jV _ _ jm_p_X10_absent _ 22 [some (.inr (.inr 94)), some (.inl q), some (.inl c), some (.inl y), none, none, none, none, none] [.inl 0] μ
                        refine jv_if_neF rfl rfl (by decide) ?_
                        refine jv_ldc rfl rfl ?_
                        refine jv_ireturn rfl (Or.inl rfl) ?_
                        exact ⟨jv_one (by omega), jI_pair hI fc (jr_id _)⟩
                · first
                  | (exfalso; omega)
                  | skip
                    show jV _ _ jm_p_X10_absent _ 16 [some (.inr (.inr 94)), some (.inl q), some (.inl c), some (.inl y), none, none, none, none, none] [.inl 0] μ
                    refine jv_if_eqT rfl rfl (by decide) ?_
                    refine jv_ldc rfl rfl ?_
                    refine jv_ireturn rfl (Or.inl rfl) ?_
                    exact ⟨jv_one (by omega), jI_pair hI fc (jr_id _)⟩
            · first
              | (exfalso; omega)
              | skip
                show jV _ _ jm_p_X10_absent _ 10 [some (.inr (.inr 94)), some (.inl q), some (.inl c), some (.inl y), none, none, none, none, none] [.inl 0] μ
                refine jv_if_eqT rfl rfl (by decide) ?_
                refine jv_ldc rfl rfl ?_
                refine jv_ireturn rfl (Or.inl rfl) ?_
                exact ⟨jv_one (by omega), jI_pair hI fc (jr_id _)⟩
        · first
          | (exfalso; omega)
          | skip
            refine jv_ldc rfl rfl ?_
            refine jv_ireturn rfl (Or.inl rfl) ?_
            exact ⟨jv_one (by omega), jI_pair hI fc (jr_id _)⟩
      · refine jv_iload_n rfl rfl rfl ?_
        refine jv_bipush rfl rfl ?_
        refine jv_icmp_gt rfl rfl rfl (fun c12 => ?_) (fun c12 => ?_)
        · refine jv_ldc rfl rfl ?_
          refine jv_ireturn rfl (Or.inl rfl) ?_
          refine ⟨_, rfl, ?_⟩
          have fc : jf μ μ := jf_id μ
          have hUμ : jU μ (μ 95) := jU_jf fc
          have q94μ : μ 94 1 = μ 94 1 := by rw [fc 94 (by omega)]
          refine jv_enter (d := 199) jm_p_X10_absent [some (.inr (.inr 94)), some (.inl q), some (.inl c), some (.inl y), none, none, none, none, none] rfl rfl rfl (Nat.le_of_ble_eq_true rfl) rfl rfl ?_
          refine jv_aload_n rfl rfl rfl (by decide) ?_
          refine jv_geti rfl rfl rfl ⟨by decide, rfl⟩ (by decide) ?_
          refine jv_if_ne rfl rfl rfl (fun c2 => ?_) (fun c2 => ?_)
          · first
            | (exfalso; omega)
            | skip
              refine jv_iload_n rfl rfl rfl ?_
              refine jv_i2l rfl rfl ?_
              refine jv_lconst rfl rfl ?_
              refine jv_ldc2_w rfl rfl ?_
              refine jv_callS3 rfl rfl rfl (Nat.le_of_ble_eq_true rfl) (mo_in (fun b9 => ?_) (fun b9 => ?_))
              · first
                | (exfalso; omega)
                | skip
                  show jV _ _ jm_p_X10_absent _ 10 [some (.inr (.inr 94)), some (.inl q), some (.inl c), some (.inl y), none, none, none, none, none] [.inl 1] μ
                  refine jv_if_eqF rfl rfl (by decide) ?_
                  refine jv_iload_n rfl rfl rfl ?_
                  refine jv_i2l rfl rfl ?_
                  refine jv_lconst rfl rfl ?_
                  refine jv_ldc2_w rfl rfl ?_
                  refine jv_callS3 rfl rfl rfl (Nat.le_of_ble_eq_true rfl) (mo_in (fun b15 => ?_) (fun b15 => ?_))
                  · first
                    | (exfalso; omega)
                    | skip
                      show jV _ _ jm_p_X10_absent _ 16 [some (.inr (.inr 94)), some (.inl q), some (.inl c), some (.inl y), none, none, none, none, none] [.inl 1] μ
                      refine jv_if_eqF rfl rfl (by decide) ?_
                      refine jv_iload_n rfl rfl rfl ?_
                      refine jv_i2l rfl rfl ?_
                      refine jv_lconst rfl rfl ?_
                      refine jv_lconst rfl rfl ?_
                      refine jv_callS3 rfl rfl rfl (Nat.le_of_ble_eq_true rfl) (mo_in (fun b21 => ?_) (fun b21 => ?_))
                      · first
                        | (exfalso; omega)
                        | skip
                          show jV _ _ jm_p_X10_absent _ 22 [some (.inr (.inr 94)), some (.inl q), some (.inl c), some (.inl y), none, none, none, none, none] [.inl 1] μ
                          refine jv_if_neT rfl rfl (by decide) ?_
                          refine jv_iconst rfl rfl ?_
                          refine jv_istoreK (L2 := [some (.inr (.inr 94)), some (.inl q), some (.inl c), some (.inl y), some (.inl 0), none, none, none, none]) rfl rfl rfl ?_
                          refine jv_iconst rfl rfl ?_
                          refine jv_istoreK (L2 := [some (.inr (.inr 94)), some (.inl q), some (.inl c), some (.inl y), some (.inl 0), some (.inl 0), none, none, none]) rfl rfl rfl ?_
                          refine jv_iconst rfl rfl ?_
                          refine jv_istoreK (L2 := [some (.inr (.inr 94)), some (.inl q), some (.inl c), some (.inl y), some (.inl 0), some (.inl 0), some (.inl 0), none, none]) rfl rfl rfl ?_
                          exfalso; omega
                      · first
                        | (exfalso; omega)
                        | skip
                          show jV _ _ jm_p_X10_absent _ 22 [some (.inr (.inr 94)), some (.inl q), some (.inl c), some (.inl y), none, none, none, none, none] [.inl 0] μ
                          refine jv_if_neF rfl rfl (by decide) ?_
                          refine jv_ldc rfl rfl ?_
                          refine jv_ireturn rfl (Or.inl rfl) ?_
                          exact ⟨jv_one (by omega), jI_pair hI fc (jr_id _)⟩
                  · first
                    | (exfalso; omega)
                    | skip
                      show jV _ _ jm_p_X10_absent _ 16 [some (.inr (.inr 94)), some (.inl q), some (.inl c), some (.inl y), none, none, none, none, none] [.inl 0] μ
                      refine jv_if_eqT rfl rfl (by decide) ?_
                      refine jv_ldc rfl rfl ?_
                      refine jv_ireturn rfl (Or.inl rfl) ?_
                      exact ⟨jv_one (by omega), jI_pair hI fc (jr_id _)⟩
              · first
                | (exfalso; omega)
                | skip
                  show jV _ _ jm_p_X10_absent _ 10 [some (.inr (.inr 94)), some (.inl q), some (.inl c), some (.inl y), none, none, none, none, none] [.inl 0] μ
                  refine jv_if_eqT rfl rfl (by decide) ?_
                  refine jv_ldc rfl rfl ?_
                  refine jv_ireturn rfl (Or.inl rfl) ?_
                  exact ⟨jv_one (by omega), jI_pair hI fc (jr_id _)⟩
          · first
            | (exfalso; omega)
            | skip
              refine jv_ldc rfl rfl ?_
              refine jv_ireturn rfl (Or.inl rfl) ?_
              exact ⟨jv_one (by omega), jI_pair hI fc (jr_id _)⟩
        · refine jv_iload_n rfl rfl rfl ?_
          refine jv_callS1 rfl rfl rfl (Nat.le_of_ble_eq_true rfl) (cl_neither (fun b14 => ?_) (fun b14 => ?_))
          · show jV _ _ jm_p_X9_absent _ 15 [some (.inr (.inr 0)), some (.inl q), some (.inl c), some (.inl y)] [.inl 1] μ
            refine jv_if_eqF rfl rfl (by decide) ?_
            refine jv_ldc rfl rfl ?_
            refine jv_ireturn rfl (Or.inl rfl) ?_
            refine ⟨_, rfl, ?_⟩
            have fc : jf μ μ := jf_id μ
            have hUμ : jU μ (μ 95) := jU_jf fc
            have q94μ : μ 94 1 = μ 94 1 := by rw [fc 94 (by omega)]
            refine jv_enter (d := 199) jm_p_X10_absent [some (.inr (.inr 94)), some (.inl q), some (.inl c), some (.inl y), none, none, none, none, none] rfl rfl rfl (Nat.le_of_ble_eq_true rfl) rfl rfl ?_
            refine jv_aload_n rfl rfl rfl (by decide) ?_
            refine jv_geti rfl rfl rfl ⟨by decide, rfl⟩ (by decide) ?_
            refine jv_if_ne rfl rfl rfl (fun c2 => ?_) (fun c2 => ?_)
            · first
              | (exfalso; omega)
              | skip
                refine jv_iload_n rfl rfl rfl ?_
                refine jv_i2l rfl rfl ?_
                refine jv_lconst rfl rfl ?_
                refine jv_ldc2_w rfl rfl ?_
                refine jv_callS3 rfl rfl rfl (Nat.le_of_ble_eq_true rfl) (mo_in (fun b9 => ?_) (fun b9 => ?_))
                · first
                  | (exfalso; omega)
                  | skip
                    show jV _ _ jm_p_X10_absent _ 10 [some (.inr (.inr 94)), some (.inl q), some (.inl c), some (.inl y), none, none, none, none, none] [.inl 1] μ
                    refine jv_if_eqF rfl rfl (by decide) ?_
                    refine jv_iload_n rfl rfl rfl ?_
                    refine jv_i2l rfl rfl ?_
                    refine jv_lconst rfl rfl ?_
                    refine jv_ldc2_w rfl rfl ?_
                    refine jv_callS3 rfl rfl rfl (Nat.le_of_ble_eq_true rfl) (mo_in (fun b15 => ?_) (fun b15 => ?_))
                    · first
                      | (exfalso; omega)
                      | skip
                        show jV _ _ jm_p_X10_absent _ 16 [some (.inr (.inr 94)), some (.inl q), some (.inl c), some (.inl y), none, none, none, none, none] [.inl 1] μ
                        refine jv_if_eqF rfl rfl (by decide) ?_
                        refine jv_iload_n rfl rfl rfl ?_
                        refine jv_i2l rfl rfl ?_
                        refine jv_lconst rfl rfl ?_
                        refine jv_lconst rfl rfl ?_
                        refine jv_callS3 rfl rfl rfl (Nat.le_of_ble_eq_true rfl) (mo_in (fun b21 => ?_) (fun b21 => ?_))
                        · first
                          | (exfalso; omega)
                          | skip
                            show jV _ _ jm_p_X10_absent _ 22 [some (.inr (.inr 94)), some (.inl q), some (.inl c), some (.inl y), none, none, none, none, none] [.inl 1] μ
                            refine jv_if_neT rfl rfl (by decide) ?_
                            refine jv_iconst rfl rfl ?_
                            refine jv_istoreK (L2 := [some (.inr (.inr 94)), some (.inl q), some (.inl c), some (.inl y), some (.inl 0), none, none, none, none]) rfl rfl rfl ?_
                            refine jv_iconst rfl rfl ?_
                            refine jv_istoreK (L2 := [some (.inr (.inr 94)), some (.inl q), some (.inl c), some (.inl y), some (.inl 0), some (.inl 0), none, none, none]) rfl rfl rfl ?_
                            refine jv_iconst rfl rfl ?_
                            refine jv_istoreK (L2 := [some (.inr (.inr 94)), some (.inl q), some (.inl c), some (.inl y), some (.inl 0), some (.inl 0), some (.inl 0), none, none]) rfl rfl rfl ?_
                            exfalso; omega
                        · first
                          | (exfalso; omega)
                          | skip
                            show jV _ _ jm_p_X10_absent _ 22 [some (.inr (.inr 94)), some (.inl q), some (.inl c), some (.inl y), none, none, none, none, none] [.inl 0] μ
                            refine jv_if_neF rfl rfl (by decide) ?_
                            refine jv_ldc rfl rfl ?_
                            refine jv_ireturn rfl (Or.inl rfl) ?_
                            exact ⟨jv_one (by omega), jI_pair hI fc (jr_id _)⟩
                    · first
                      | (exfalso; omega)
                      | skip
                        show jV _ _ jm_p_X10_absent _ 16 [some (.inr (.inr 94)), some (.inl q), some (.inl c), some (.inl y), none, none, none, none, none] [.inl 0] μ
                        refine jv_if_eqT rfl rfl (by decide) ?_
                        refine jv_ldc rfl rfl ?_
                        refine jv_ireturn rfl (Or.inl rfl) ?_
                        exact ⟨jv_one (by omega), jI_pair hI fc (jr_id _)⟩
                · first
                  | (exfalso; omega)
                  | skip
                    show jV _ _ jm_p_X10_absent _ 10 [some (.inr (.inr 94)), some (.inl q), some (.inl c), some (.inl y), none, none, none, none, none] [.inl 0] μ
                    refine jv_if_eqT rfl rfl (by decide) ?_
                    refine jv_ldc rfl rfl ?_
                    refine jv_ireturn rfl (Or.inl rfl) ?_
                    exact ⟨jv_one (by omega), jI_pair hI fc (jr_id _)⟩
            · first
              | (exfalso; omega)
              | skip
                refine jv_ldc rfl rfl ?_
                refine jv_ireturn rfl (Or.inl rfl) ?_
                exact ⟨jv_one (by omega), jI_pair hI fc (jr_id _)⟩
          · show jV _ _ jm_p_X9_absent _ 15 [some (.inr (.inr 0)), some (.inl q), some (.inl c), some (.inl y)] [.inl 0] μ
            refine jv_if_eqT rfl rfl (by decide) ?_
            refine jv_aload_n rfl rfl rfl (by decide) ?_
            refine jv_getr (w := 49) rfl rfl rfl ⟨by decide, rfl⟩ rfl rfl ?_
            refine jv_aload_n rfl rfl rfl (by decide) ?_
            refine jv_getr (w := 7) rfl rfl rfl ⟨by decide, rfl⟩ rfl rfl ?_
            refine jv_iload_n rfl rfl rfl ?_
            refine jv_iload_n rfl rfl rfl ?_
            refine jv_iload_n rfl rfl rfl ?_
            refine jv_if_ne rfl rfl rfl (fun c25 => ?_) (fun c25 => ?_)
            · refine jv_iconst rfl rfl ?_
              refine jv_callV4 rfl rfl rfl rfl ⟨by decide, rfl⟩ (Nat.le_of_ble_eq_true rfl) (cl_like hHμ (by omega) (fun _ μ29 fμ29 => ?_) (fun h => absurd rfl h))
              show jV _ _ jm_p_X9_absent _ 30 [some (.inr (.inr 0)), some (.inl q), some (.inl c), some (.inl y)] [.inl (((10 : Int) ^ (μ 95 1).toNat) / (jeu 64 ((10 : Int) ^ (μ 95 1).toNat) (jA (μ 95) q c)))] μ29
              refine jv_ireturn rfl (Or.inl rfl) ?_
              refine ⟨_, rfl, ?_⟩
              have fc : jf μ μ29 := fμ29
              have hUμ29 : jU μ29 (μ 95) := jU_jf fc
              have u0μ29 := hUμ29 0 (by decide) (by decide)
              have u1μ29 := hUμ29 1 (by decide) (by decide)
              have q94μ29 : μ29 94 1 = μ 94 1 := by rw [fc 94 (by omega)]
              have hsm : jm_shl 1 (μ29 95 1) = jm_shl 1 (μ 95 1) := by rw [u1μ29]
              refine jv_enter (d := 199) jm_p_X10_absent [some (.inr (.inr 94)), some (.inl q), some (.inl c), some (.inl y), none, none, none, none, none] rfl rfl rfl (Nat.le_of_ble_eq_true rfl) rfl rfl ?_
              refine jv_aload_n rfl rfl rfl (by decide) ?_
              refine jv_geti rfl rfl rfl ⟨by decide, rfl⟩ (by decide) ?_
              refine jv_if_ne rfl rfl rfl (fun c2 => ?_) (fun c2 => ?_)
              · first
                | (exfalso; omega)
                | skip
                  refine jv_iload_n rfl rfl rfl ?_
                  refine jv_i2l rfl rfl ?_
                  refine jv_lconst rfl rfl ?_
                  refine jv_ldc2_w rfl rfl ?_
                  refine jv_callS3 rfl rfl rfl (Nat.le_of_ble_eq_true rfl) (mo_in (fun b9 => ?_) (fun b9 => ?_))
                  · first
                    | (exfalso; omega)
                    | skip
                      show jV _ _ jm_p_X10_absent _ 10 [some (.inr (.inr 94)), some (.inl q), some (.inl c), some (.inl y), none, none, none, none, none] [.inl 1] μ29
                      refine jv_if_eqF rfl rfl (by decide) ?_
                      refine jv_iload_n rfl rfl rfl ?_
                      refine jv_i2l rfl rfl ?_
                      refine jv_lconst rfl rfl ?_
                      refine jv_ldc2_w rfl rfl ?_
                      refine jv_callS3 rfl rfl rfl (Nat.le_of_ble_eq_true rfl) (mo_in (fun b15 => ?_) (fun b15 => ?_))
                      · first
                        | (exfalso; omega)
                        | skip
                          show jV _ _ jm_p_X10_absent _ 16 [some (.inr (.inr 94)), some (.inl q), some (.inl c), some (.inl y), none, none, none, none, none] [.inl 1] μ29
                          refine jv_if_eqF rfl rfl (by decide) ?_
                          refine jv_iload_n rfl rfl rfl ?_
                          refine jv_i2l rfl rfl ?_
                          refine jv_lconst rfl rfl ?_
                          refine jv_lconst rfl rfl ?_
                          refine jv_callS3 rfl rfl rfl (Nat.le_of_ble_eq_true rfl) (mo_in (fun b21 => ?_) (fun b21 => ?_))
                          · first
                            | (exfalso; omega)
                            | skip
                              show jV _ _ jm_p_X10_absent _ 22 [some (.inr (.inr 94)), some (.inl q), some (.inl c), some (.inl y), none, none, none, none, none] [.inl 1] μ29
                              refine jv_if_neT rfl rfl (by decide) ?_
                              refine jv_iconst rfl rfl ?_
                              refine jv_istoreK (L2 := [some (.inr (.inr 94)), some (.inl q), some (.inl c), some (.inl y), some (.inl 0), none, none, none, none]) rfl rfl rfl ?_
                              refine jv_iconst rfl rfl ?_
                              refine jv_istoreK (L2 := [some (.inr (.inr 94)), some (.inl q), some (.inl c), some (.inl y), some (.inl 0), some (.inl 0), none, none, none]) rfl rfl rfl ?_
                              refine jv_iconst rfl rfl ?_
                              refine jv_istoreK (L2 := [some (.inr (.inr 94)), some (.inl q), some (.inl c), some (.inl y), some (.inl 0), some (.inl 0), some (.inl 0), none, none]) rfl rfl rfl ?_
                              have hNN := jN_le (n := (μ 95 1).toNat) (by omega)
                              have hA := jA_le (t := μ 95) (q := q) (c := c) w1 (by omega) (by omega)
                              have hp := jz_p10 (μ 95 1).toNat (by omega)
                              have hgp := jeu_pos 64 ((10 : Int) ^ (μ 95 1).toNat) (jA (μ 95) q c) (by omega) hA.1
                              refine mo_absent_l hUμ29 hwf hcf9 (by omega) (fun a2 o7 o8 μz fz => ?_) 70 0 0 0 _ _ μ29 (by omega) (by omega) (by omega) rfl rfl (jr_id _)
                              refine jv_iload rfl rfl rfl ?_
                              refine jv_istore (fun x => [some (.inr (.inr 94)), some (.inl q), some (.inl c), some (.inl y), some (.inl (jA (μ 95) q c)), some (.inl ((10 : Int) ^ (μ 95 1).toNat)), some (.inl x), o7, o8]) rfl rfl (fun _ => rfl) (fun x6_83 ex6_83 => ?_)
                              refine jv_iload rfl rfl rfl ?_
                              refine jv_istore (fun x => [some (.inr (.inr 94)), some (.inl q), some (.inl c), some (.inl y), some (.inl (jA (μ 95) q c)), some (.inl ((10 : Int) ^ (μ 95 1).toNat)), some (.inl x6_83), some (.inl x), o8]) rfl rfl (fun _ => rfl) (fun x7_85 ex7_85 => ?_)
                              refine mo_euclid_l (g := (jeu 64 ((10 : Int) ^ (μ 95 1).toNat) (jA (μ 95) q c))) (fun z2 o8b => ?_) 1000065 x6_83 x7_85 _ (by omega) (by omega) (by omega) (by rw [ex6_83, ex7_85]; exact jeu_two (by omega) (by omega) hA.1 hA.2 (by omega))
                              refine jv_iload_n rfl rfl rfl ?_
                              refine jv_if_ne rfl rfl rfl (fun c98 => ?_) (fun c98 => ?_)
                              · first
                                | (exfalso; omega)
                                | skip
                                  refine jv_iload rfl rfl rfl ?_
                                  refine jv_iload rfl rfl rfl ?_
                                  refine jv_idiv rfl rfl ⟨by omega, by omega⟩ ?_
                                  refine jv_ireturn rfl (Or.inl rfl) ?_
                                  exact ⟨jv_one (by omega), jI_pair hI fc fz⟩
                              · first
                                | (exfalso; omega)
                                | skip
                                  refine jv_iload rfl rfl rfl ?_
                                  refine jv_iload rfl rfl rfl ?_
                                  refine jv_idiv rfl rfl ⟨by omega, by omega⟩ ?_
                                  refine jv_goto rfl rfl ?_
                                  refine jv_ireturn rfl (Or.inl rfl) ?_
                                  exact ⟨jv_one (by omega), jI_pair hI fc fz⟩
                          · first
                            | (exfalso; omega)
                            | skip
                              show jV _ _ jm_p_X10_absent _ 22 [some (.inr (.inr 94)), some (.inl q), some (.inl c), some (.inl y), none, none, none, none, none] [.inl 0] μ29
                              refine jv_if_neF rfl rfl (by decide) ?_
                              refine jv_ldc rfl rfl ?_
                              refine jv_ireturn rfl (Or.inl rfl) ?_
                              exact ⟨jv_one (by omega), jI_pair hI fc (jr_id _)⟩
                      · first
                        | (exfalso; omega)
                        | skip
                          show jV _ _ jm_p_X10_absent _ 16 [some (.inr (.inr 94)), some (.inl q), some (.inl c), some (.inl y), none, none, none, none, none] [.inl 0] μ29
                          refine jv_if_eqT rfl rfl (by decide) ?_
                          refine jv_ldc rfl rfl ?_
                          refine jv_ireturn rfl (Or.inl rfl) ?_
                          exact ⟨jv_one (by omega), jI_pair hI fc (jr_id _)⟩
                  · first
                    | (exfalso; omega)
                    | skip
                      show jV _ _ jm_p_X10_absent _ 10 [some (.inr (.inr 94)), some (.inl q), some (.inl c), some (.inl y), none, none, none, none, none] [.inl 0] μ29
                      refine jv_if_eqT rfl rfl (by decide) ?_
                      refine jv_ldc rfl rfl ?_
                      refine jv_ireturn rfl (Or.inl rfl) ?_
                      exact ⟨jv_one (by omega), jI_pair hI fc (jr_id _)⟩
              · first
                | (exfalso; omega)
                | skip
                  refine jv_ldc rfl rfl ?_
                  refine jv_ireturn rfl (Or.inl rfl) ?_
                  exact ⟨jv_one (by omega), jI_pair hI fc (jr_id _)⟩
            · refine jv_iconst rfl rfl ?_
              refine jv_goto rfl rfl ?_
              refine jv_callV4 rfl rfl rfl rfl ⟨by decide, rfl⟩ (Nat.le_of_ble_eq_true rfl) (cl_like hHμ (by omega) (fun h => absurd h (by decide)) (fun _ μ29_1 fμ29_1 => ?_))
              show jV _ _ jm_p_X9_absent _ 30 [some (.inr (.inr 0)), some (.inl q), some (.inl c), some (.inl y)] [.inl ((jA (μ 95) q c) / (jeu 64 ((10 : Int) ^ (μ 95 1).toNat) (jA (μ 95) q c)))] μ29_1
              refine jv_ireturn rfl (Or.inl rfl) ?_
              refine ⟨_, rfl, ?_⟩
              have fc : jf μ μ29_1 := fμ29_1
              have hUμ29_1 : jU μ29_1 (μ 95) := jU_jf fc
              have u0μ29_1 := hUμ29_1 0 (by decide) (by decide)
              have u1μ29_1 := hUμ29_1 1 (by decide) (by decide)
              have q94μ29_1 : μ29_1 94 1 = μ 94 1 := by rw [fc 94 (by omega)]
              have hsm : jm_shl 1 (μ29_1 95 1) = jm_shl 1 (μ 95 1) := by rw [u1μ29_1]
              refine jv_enter (d := 199) jm_p_X10_absent [some (.inr (.inr 94)), some (.inl q), some (.inl c), some (.inl y), none, none, none, none, none] rfl rfl rfl (Nat.le_of_ble_eq_true rfl) rfl rfl ?_
              refine jv_aload_n rfl rfl rfl (by decide) ?_
              refine jv_geti rfl rfl rfl ⟨by decide, rfl⟩ (by decide) ?_
              refine jv_if_ne rfl rfl rfl (fun c2 => ?_) (fun c2 => ?_)
              · first
                | (exfalso; omega)
                | skip
                  refine jv_iload_n rfl rfl rfl ?_
                  refine jv_i2l rfl rfl ?_
                  refine jv_lconst rfl rfl ?_
                  refine jv_ldc2_w rfl rfl ?_
                  refine jv_callS3 rfl rfl rfl (Nat.le_of_ble_eq_true rfl) (mo_in (fun b9 => ?_) (fun b9 => ?_))
                  · first
                    | (exfalso; omega)
                    | skip
                      show jV _ _ jm_p_X10_absent _ 10 [some (.inr (.inr 94)), some (.inl q), some (.inl c), some (.inl y), none, none, none, none, none] [.inl 1] μ29_1
                      refine jv_if_eqF rfl rfl (by decide) ?_
                      refine jv_iload_n rfl rfl rfl ?_
                      refine jv_i2l rfl rfl ?_
                      refine jv_lconst rfl rfl ?_
                      refine jv_ldc2_w rfl rfl ?_
                      refine jv_callS3 rfl rfl rfl (Nat.le_of_ble_eq_true rfl) (mo_in (fun b15 => ?_) (fun b15 => ?_))
                      · first
                        | (exfalso; omega)
                        | skip
                          show jV _ _ jm_p_X10_absent _ 16 [some (.inr (.inr 94)), some (.inl q), some (.inl c), some (.inl y), none, none, none, none, none] [.inl 1] μ29_1
                          refine jv_if_eqF rfl rfl (by decide) ?_
                          refine jv_iload_n rfl rfl rfl ?_
                          refine jv_i2l rfl rfl ?_
                          refine jv_lconst rfl rfl ?_
                          refine jv_lconst rfl rfl ?_
                          refine jv_callS3 rfl rfl rfl (Nat.le_of_ble_eq_true rfl) (mo_in (fun b21 => ?_) (fun b21 => ?_))
                          · first
                            | (exfalso; omega)
                            | skip
                              show jV _ _ jm_p_X10_absent _ 22 [some (.inr (.inr 94)), some (.inl q), some (.inl c), some (.inl y), none, none, none, none, none] [.inl 1] μ29_1
                              refine jv_if_neT rfl rfl (by decide) ?_
                              refine jv_iconst rfl rfl ?_
                              refine jv_istoreK (L2 := [some (.inr (.inr 94)), some (.inl q), some (.inl c), some (.inl y), some (.inl 0), none, none, none, none]) rfl rfl rfl ?_
                              refine jv_iconst rfl rfl ?_
                              refine jv_istoreK (L2 := [some (.inr (.inr 94)), some (.inl q), some (.inl c), some (.inl y), some (.inl 0), some (.inl 0), none, none, none]) rfl rfl rfl ?_
                              refine jv_iconst rfl rfl ?_
                              refine jv_istoreK (L2 := [some (.inr (.inr 94)), some (.inl q), some (.inl c), some (.inl y), some (.inl 0), some (.inl 0), some (.inl 0), none, none]) rfl rfl rfl ?_
                              have hNN := jN_le (n := (μ 95 1).toNat) (by omega)
                              have hA := jA_le (t := μ 95) (q := q) (c := c) w1 (by omega) (by omega)
                              have hp := jz_p10 (μ 95 1).toNat (by omega)
                              have hgp := jeu_pos 64 ((10 : Int) ^ (μ 95 1).toNat) (jA (μ 95) q c) (by omega) hA.1
                              refine mo_absent_l hUμ29_1 hwf hcf9 (by omega) (fun a2 o7 o8 μz fz => ?_) 70 0 0 0 _ _ μ29_1 (by omega) (by omega) (by omega) rfl rfl (jr_id _)
                              refine jv_iload rfl rfl rfl ?_
                              refine jv_istore (fun x => [some (.inr (.inr 94)), some (.inl q), some (.inl c), some (.inl y), some (.inl (jA (μ 95) q c)), some (.inl ((10 : Int) ^ (μ 95 1).toNat)), some (.inl x), o7, o8]) rfl rfl (fun _ => rfl) (fun x6_83 ex6_83 => ?_)
                              refine jv_iload rfl rfl rfl ?_
                              refine jv_istore (fun x => [some (.inr (.inr 94)), some (.inl q), some (.inl c), some (.inl y), some (.inl (jA (μ 95) q c)), some (.inl ((10 : Int) ^ (μ 95 1).toNat)), some (.inl x6_83), some (.inl x), o8]) rfl rfl (fun _ => rfl) (fun x7_85 ex7_85 => ?_)
                              refine mo_euclid_l (g := (jeu 64 ((10 : Int) ^ (μ 95 1).toNat) (jA (μ 95) q c))) (fun z2 o8b => ?_) 1000065 x6_83 x7_85 _ (by omega) (by omega) (by omega) (by rw [ex6_83, ex7_85]; exact jeu_two (by omega) (by omega) hA.1 hA.2 (by omega))
                              refine jv_iload_n rfl rfl rfl ?_
                              refine jv_if_ne rfl rfl rfl (fun c98 => ?_) (fun c98 => ?_)
                              · first
                                | (exfalso; omega)
                                | skip
                                  refine jv_iload rfl rfl rfl ?_
                                  refine jv_iload rfl rfl rfl ?_
                                  refine jv_idiv rfl rfl ⟨by omega, by omega⟩ ?_
                                  refine jv_ireturn rfl (Or.inl rfl) ?_
                                  exact ⟨jv_one (by omega), jI_pair hI fc fz⟩
                              · first
                                | (exfalso; omega)
                                | skip
                                  refine jv_iload rfl rfl rfl ?_
                                  refine jv_iload rfl rfl rfl ?_
                                  refine jv_idiv rfl rfl ⟨by omega, by omega⟩ ?_
                                  refine jv_goto rfl rfl ?_
                                  refine jv_ireturn rfl (Or.inl rfl) ?_
                                  exact ⟨jv_one (by omega), jI_pair hI fc fz⟩
                          · first
                            | (exfalso; omega)
                            | skip
                              show jV _ _ jm_p_X10_absent _ 22 [some (.inr (.inr 94)), some (.inl q), some (.inl c), some (.inl y), none, none, none, none, none] [.inl 0] μ29_1
                              refine jv_if_neF rfl rfl (by decide) ?_
                              refine jv_ldc rfl rfl ?_
                              refine jv_ireturn rfl (Or.inl rfl) ?_
                              exact ⟨jv_one (by omega), jI_pair hI fc (jr_id _)⟩
                      · first
                        | (exfalso; omega)
                        | skip
                          show jV _ _ jm_p_X10_absent _ 16 [some (.inr (.inr 94)), some (.inl q), some (.inl c), some (.inl y), none, none, none, none, none] [.inl 0] μ29_1
                          refine jv_if_eqT rfl rfl (by decide) ?_
                          refine jv_ldc rfl rfl ?_
                          refine jv_ireturn rfl (Or.inl rfl) ?_
                          exact ⟨jv_one (by omega), jI_pair hI fc (jr_id _)⟩
                  · first
                    | (exfalso; omega)
                    | skip
                      show jV _ _ jm_p_X10_absent _ 10 [some (.inr (.inr 94)), some (.inl q), some (.inl c), some (.inl y), none, none, none, none, none] [.inl 0] μ29_1
                      refine jv_if_eqT rfl rfl (by decide) ?_
                      refine jv_ldc rfl rfl ?_
                      refine jv_ireturn rfl (Or.inl rfl) ?_
                      exact ⟨jv_one (by omega), jI_pair hI fc (jr_id _)⟩
              · first
                | (exfalso; omega)
                | skip
                  refine jv_ldc rfl rfl ?_
                  refine jv_ireturn rfl (Or.inl rfl) ?_
                  exact ⟨jv_one (by omega), jI_pair hI fc (jr_id _)⟩
