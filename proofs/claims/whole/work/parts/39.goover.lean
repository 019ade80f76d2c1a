/-- one goes over k places: what he has yet, what lies, what he left -/
def jg_b (so fr ma lim : Int) (cy : Int → Int) (p m y l : Int) : Int := min (jt_wip so fr ma p (cy m) y) (min y (lim - l))
def jg (so fr ma hs lim : Int) (cy la ly lf : Int → Int) : Nat → Int × (Int → Int) × (Int → Int)
  | 0 => (hs, ly, lf)
  | k + 1 => ((jg so fr ma hs lim cy la ly lf k).1 - jg_b so fr ma lim cy k (la k) (jg so fr ma hs lim cy la ly lf k).1 ((jg so fr ma hs lim cy la ly lf k).2.1 (la k)), jm_u1 (jg so fr ma hs lim cy la ly lf k).2.1 (la k) ((jg so fr ma hs lim cy la ly lf k).2.1 (la k) + jg_b so fr ma lim cy k (la k) (jg so fr ma hs lim cy la ly lf k).1 ((jg so fr ma hs lim cy la ly lf k).2.1 (la k))), jm_u1 (jg so fr ma hs lim cy la ly lf k).2.2 (la k) (jg_b so fr ma lim cy k (la k) (jg so fr ma hs lim cy la ly lf k).1 ((jg so fr ma hs lim cy la ly lf k).2.1 (la k))))
theorem jg_b_r {so fr ma lim : Int} {cy : Int → Int} {p m y l : Int} (hm : 0 ≤ ma ∧ ma ≤ 9) (hy : 0 ≤ y ∧ y ≤ 60) (hl : 0 ≤ l ∧ l ≤ lim) : 0 ≤ jg_b so fr ma lim cy p m y l ∧ jg_b so fr ma lim cy p m y l ≤ y ∧ jg_b so fr ma lim cy p m y l ≤ lim - l := by
  have h := jt_wip_r (s := so) (f := fr) (p := p) (c := cy m) hm hy
  unfold jg_b
  omega
theorem jg_r {so fr ma hs lim n0 : Int} {cy la ly lf : Int → Int} (hm : 0 ≤ ma ∧ ma ≤ 9) (hh : 0 ≤ hs ∧ hs ≤ 60) (hla : ∀ p, 0 ≤ p → p < n0 → 0 ≤ la p ∧ la p < 4) (hl : ∀ m, 0 ≤ m → m < 4 → 0 ≤ ly m ∧ ly m ≤ lim) : ∀ k : Nat, (k : Int) ≤ n0 → (0 ≤ (jg so fr ma hs lim cy la ly lf k).1 ∧ (jg so fr ma hs lim cy la ly lf k).1 ≤ 60) ∧ ∀ m, 0 ≤ m → m < 4 → 0 ≤ (jg so fr ma hs lim cy la ly lf k).2.1 m ∧ (jg so fr ma hs lim cy la ly lf k).2.1 m ≤ lim
  | 0 => fun _ => ⟨hh, hl⟩
  | k + 1 => by
    intro hk
    have ih := jg_r (so := so) (fr := fr) (cy := cy) (la := la) (lf := lf) hm hh hla hl k (by omega)
    have hp := hla k (by omega) (by omega)
    have h2 := ih.2 (la k) hp.1 hp.2
    have hb := jg_b_r (so := so) (fr := fr) (cy := cy) (p := k) (m := la k) hm ih.1 h2
    refine ⟨?_, fun m m0 m1 => ?_⟩
    · simp only [jg]
      omega
    · simp only [jg, jm_u1]
      have h1 := ih.2 m m0 m1
      split
      · omega
      · exact h1
set_option maxRecDepth 10000 in
theorem cl_goOver45_l {X : jm_X} {d : Nat} {Q : jv_P} {so fr ma hs lim n0 z : Int} {cy la ly lf : Int → Int} {μ0 : jm_M} (hz : jz_com z) (zb : z ≠ 47 ∧ z ≠ 48) (h0 : μ0 z 0 = so) (h1 : μ0 z 1 = hs) (h2 : μ0 z 2 = fr) (h3 : μ0 z 3 = ma) (hlim : μ0 7 0 = lim) (hn : μ0 7 2 = n0) (n4 : n0 ≤ 4) (hso : 1 ≤ so ∧ so ≤ 5) (hma : 0 ≤ ma ∧ ma ≤ 9) (hhs : 0 ≤ hs ∧ hs ≤ 60) (hl6 : lim ≤ 60) (hmat : jh_mats μ0 7) (hcy : ∀ m, 0 ≤ m → m < n0 → μ0 (μ0 8 m) 0 = cy m) (hla0 : ∀ p, 0 ≤ p → p < n0 → μ0 46 p = la p ∧ 0 ≤ la p ∧ la p < n0) (hly : μ0 47 = ly) (hlf : μ0 48 = lf) (hl : ∀ m, 0 ≤ m → m < 4 → 0 ≤ ly m ∧ ly m ≤ lim) (kk : ∀ μ2 : jm_M, (∀ u, u ≠ 47 → u ≠ 48 → μ2 u = μ0 u) → μ2 47 = (jg so fr ma hs lim cy la ly lf n0.toNat).2.1 → μ2 48 = (jg so fr ma hs lim cy la ly lf n0.toNat).2.2 → Q [.inl (jg so fr ma hs lim cy la ly lf n0.toNat).1] μ2) : ∀ (n k : Nat) (y w : Int) (o5 o6 : Option jm_V) (μ : jm_M), w = k → w ≤ n0 → n0 - w < n → y = (jg so fr ma hs lim cy la ly lf k).1 → (∀ u, u ≠ 47 → u ≠ 48 → μ u = μ0 u) → μ 47 = (jg so fr ma hs lim cy la ly lf k).2.1 → μ 48 = (jg so fr ma hs lim cy la ly lf k).2.2 → jV X (d + 1) jm_p_X8_goOver Q 5 [some (.inr (.inr 45)), some (.inr (.inr 7)), some (.inr (.inr z)), some (.inl y), some (.inl w), o5, o6] [] μ := by
  intro n
  induction n with
  | zero => intro k y w o5 o6 μ ek x1 xn ey f eb ec; exfalso; omega
  | succ n ih =>
    intro k y w o5 o6 μ ek x1 xn ey f eb ec
    have hla : ∀ p, 0 ≤ p → p < n0 → 0 ≤ la p ∧ la p < 4 := fun p p0 p1 => by have q := hla0 p p0 p1; omega
    have hr := jg_r (so := so) (fr := fr) (cy := cy) (lf := lf) hma hhs hla hl k (by omega)
    have hry := hr.1
    rw [← ey] at hry
    have f72 : μ 7 2 = n0 := by rw [f 7 (by decide) (by decide)]; exact hn
    have f70 : μ 7 0 = lim := by rw [f 7 (by decide) (by decide)]; exact hlim
    have fz : μ z = μ0 z := f z zb.1 zb.2
    have f8 : μ 8 = μ0 8 := f 8 (by decide) (by decide)
    have fa : μ 46 = μ0 46 := f 46 (by decide) (by decide)
    have hmt : jh_mats μ 7 := by
      unfold jh_mats at hmat ⊢
      show _
      rw [show (7 : Int) + 1 = 8 from rfl, show (7 : Int) + 2 = 9 from rfl] at *
      rw [f8, f 9 (by decide) (by decide)]
      exact hmat
    have gz0 : μ z 0 = so := by rw [fz]; exact h0
    have gz2 : μ z 2 = fr := by rw [fz]; exact h2
    have gz3 : μ z 3 = ma := by rw [fz]; exact h3
    have hp : w < n0 → μ 46 w = la w ∧ 0 ≤ la w ∧ la w < n0 := fun q => by rw [fa]; exact hla0 w (by omega) q
    have hcm : ∀ m, 0 ≤ m → m < n0 → μ (μ 8 m) 0 = cy m := fun m m0 m1 => by
      have q := jz_mat7 hmat (m := m) m0 (by omega)
      have q3 : μ0 8 m = 7 + 3 ∨ μ0 8 m = 7 + 5 ∨ μ0 8 m = 7 + 7 ∨ μ0 8 m = 7 + 9 := hmat.1 m m0 (by omega)
      rw [f8, f _ (by omega) (by omega)]
      exact hcy m m0 m1
    refine jv_iload rfl rfl rfl ?_
    refine jv_aload_n rfl rfl rfl (by decide) ?_
    refine jv_geti rfl rfl rfl ⟨by decide, rfl⟩ (by decide) ?_
    refine jv_icmp_ge rfl rfl rfl (fun c8 => ?_) (fun c8 => ?_)
    · refine jv_iload_n rfl rfl rfl ?_
      refine jv_ireturn rfl (Or.inl rfl) ?_
      have hk : n0.toNat = k := by omega
      rw [ey, ← hk]
      exact kk _ f (by rw [hk]; exact eb) (by rw [hk]; exact ec)
    · refine jv_aload_n rfl rfl rfl (by decide) ?_
      refine jv_getr (w := 46) rfl rfl rfl ⟨by decide, rfl⟩ rfl rfl ?_
      refine jv_iload rfl rfl rfl ?_
      refine jv_iaload rfl rfl (by decide) rfl ⟨by omega, by omega⟩ ?_
      refine jv_istore (fun x => [some (.inr (.inr 45)), some (.inr (.inr 7)), some (.inr (.inr z)), some (.inl y), some (.inl w), some (.inl x), o6]) rfl rfl (fun _ => rfl) (fun x5_13 ex5_13 => ?_)
      refine jv_aload_n rfl rfl rfl (by have := hz.2; omega) ?_
      refine jv_iload rfl rfl rfl ?_
      refine jv_aload_n rfl rfl rfl (by decide) ?_
      refine jv_getr (w := 8) rfl rfl rfl ⟨by decide, rfl⟩ rfl rfl ?_
      refine jv_iload rfl rfl rfl ?_
      have hx5 : x5_13 = la w ∧ 0 ≤ x5_13 ∧ x5_13 < n0 := by have q := hp (by omega); omega
      have hzm := jz_mat7 hmt (m := x5_13) (by omega) (by omega)
      have hlx : 0 ≤ μ 47 x5_13 ∧ μ 47 x5_13 ≤ lim := by rw [eb]; exact hr.2 _ (by omega) (by omega)
      refine jv_aaload rfl rfl rfl ⟨by decide, by decide, by decide⟩ ⟨by omega, by omega⟩ ?_
      refine jv_geti rfl rfl hzm.1 ⟨hzm.2.2.1, rfl⟩ (by decide) ?_
      refine jv_iload_n rfl rfl rfl ?_
      refine jv_callV3 rfl rfl rfl hz.1 ⟨hz.2.1, rfl⟩ (Nat.le_of_ble_eq_true rfl) (cl_wipes hz (by omega) (by omega) (by omega) ?_)
      show jV _ _ jm_p_X8_goOver _ 23 [some (.inr (.inr 45)), some (.inr (.inr 7)), some (.inr (.inr z)), some (.inl y), some (.inl w), some (.inl x5_13), o6] [.inl (jt_wip (μ z 0) (μ z 2) (μ z 3) w (μ (μ 8 x5_13) 0) y)] μ
      refine jv_istore (fun x => [some (.inr (.inr 45)), some (.inr (.inr 7)), some (.inr (.inr z)), some (.inl y), some (.inl w), some (.inl x5_13), some (.inl x)]) rfl rfl (fun _ => rfl) (fun x6_23 ex6_23 => ?_)
      refine jv_aload_n rfl rfl rfl (by decide) ?_
      refine jv_getr (w := 48) rfl rfl rfl ⟨by decide, rfl⟩ rfl rfl ?_
      refine jv_iload rfl rfl rfl ?_
      refine jv_iload rfl rfl rfl ?_
      refine jv_iload_n rfl rfl rfl ?_
      refine jv_aload_n rfl rfl rfl (by decide) ?_
      refine jv_geti rfl rfl rfl ⟨by decide, rfl⟩ (by decide) ?_
      refine jv_aload_n rfl rfl rfl (by decide) ?_
      refine jv_getr (w := 47) rfl rfl rfl ⟨by decide, rfl⟩ rfl rfl ?_
      refine jv_iload rfl rfl rfl ?_
      refine jv_iaload rfl rfl (by decide) rfl ⟨by omega, by omega⟩ ?_
      refine jv_isub rfl rfl ⟨by omega, by omega⟩ ?_
      refine jv_min rfl rfl (Nat.le_of_ble_eq_true rfl) ?_
      refine jv_min rfl rfl (Nat.le_of_ble_eq_true rfl) ?_
      refine jv_iastore rfl rfl rfl (by decide) ⟨by omega, by omega⟩ (fun μ38 eμ38 => ?_)
      have q48 : μ38 48 = jm_u1 (μ 48) x5_13 (min x6_23 (min y (μ 7 0 - μ 47 x5_13))) := by rw [eμ38]; rfl
      have qV : μ38 48 x5_13 = (min x6_23 (min y (μ 7 0 - μ 47 x5_13))) := by rw [q48]; exact if_pos rfl
      have q49 : μ38 48 = jm_u1 (μ 48) x5_13 (μ38 48 x5_13) := by rw [qV]; exact q48
      have e48 : μ38 48 x5_13 = jg_b so fr ma lim cy w x5_13 y (μ 47 x5_13) := by rw [qV, ex6_23, gz0, gz2, gz3, hcm _ (by omega) (by omega), f70]; rfl
      have e47 : μ38 47 = μ 47 := by rw [eμ38]; rfl
      have e47x : μ38 47 x5_13 = μ 47 x5_13 := by rw [e47]
      have hB := jg_b_r (so := so) (fr := fr) (cy := cy) (p := w) (m := x5_13) hma hry hlx
      rw [← e48] at hB
      have eB : μ38 48 x5_13 = jg_b so fr ma lim cy k (la k) (jg so fr ma hs lim cy la ly lf k).1 ((jg so fr ma hs lim cy la ly lf k).2.1 (la k)) := by rw [e48, eb, hx5.1, ey, ek]
      refine jv_aload_n rfl rfl rfl (by decide) ?_
      refine jv_getr (w := 47) rfl rfl rfl ⟨by decide, rfl⟩ rfl rfl ?_
      refine jv_iload rfl rfl rfl ?_
      refine jv_dup2 rfl rfl ?_
      refine jv_iaload rfl rfl (by decide) rfl ⟨by omega, by omega⟩ ?_
      refine jv_aload_n rfl rfl rfl (by decide) ?_
      refine jv_getr (w := 48) rfl rfl rfl ⟨by decide, rfl⟩ rfl rfl ?_
      refine jv_iload rfl rfl rfl ?_
      refine jv_iaload rfl rfl (by decide) rfl ⟨by omega, by omega⟩ ?_
      refine jv_iadd rfl rfl ⟨by omega, by omega⟩ ?_
      refine jv_iastore rfl rfl rfl (by decide) ⟨by omega, by omega⟩ (fun μ49 eμ49 => ?_)
      have e48b : μ49 48 x5_13 = μ38 48 x5_13 := by rw [eμ49]; rfl
      refine jv_iload_n rfl rfl rfl ?_
      refine jv_aload_n rfl rfl rfl (by decide) ?_
      refine jv_getr (w := 48) rfl rfl rfl ⟨by decide, rfl⟩ rfl rfl ?_
      refine jv_iload rfl rfl rfl ?_
      refine jv_iaload rfl rfl (by decide) rfl ⟨by omega, by omega⟩ ?_
      refine jv_isub rfl rfl ⟨by omega, by omega⟩ ?_
      refine jv_istore_n (fun x => [some (.inr (.inr 45)), some (.inr (.inr 7)), some (.inr (.inr z)), some (.inl x), some (.inl w), some (.inl x5_13), some (.inl x6_23)]) rfl rfl (fun _ => rfl) (fun x3_56 ex3_56 => ?_)
      refine jv_iinc (fun x => [some (.inr (.inr 45)), some (.inr (.inr 7)), some (.inr (.inr z)), some (.inl x3_56), some (.inl x), some (.inl x5_13), some (.inl x6_23)]) rfl rfl rfl ⟨by omega, by omega⟩ (fun _ => rfl) (fun x4_57 ex4_57 => ?_)
      refine jv_goto rfl rfl ?_
      refine ih (k + 1) x3_56 x4_57 _ _ μ49 (by omega) (by omega) (by omega) ?_ (fun u a1 b1 => by rw [eμ49, jm_off1 a1, eμ38, jm_off1 b1]; exact f u a1 b1) ?_ ?_
      · rw [ex3_56, e48b, eB, ey]
        rfl
      · have q7 : μ49 47 = jm_u1 (μ38 47) x5_13 (μ38 47 x5_13 + μ38 48 x5_13) := by rw [eμ49]; rfl
        rw [q7, e47, eB, eb, hx5.1, ek]
        rfl
      · have q8 : μ49 48 = μ38 48 := by rw [eμ49]; rfl
        rw [q8, q49, eB, ec, hx5.1, ek]
        rfl
set_option maxRecDepth 10000 in
theorem cl_goOver45 {X : jm_X} {d : Nat} {Q : jv_P} {μ : jm_M} {so fr ma hs lim n0 z : Int} {cy la ly lf : Int → Int} (hn0 : 0 ≤ n0) (hz : jz_com z) (zb : z ≠ 47 ∧ z ≠ 48) (h0 : μ z 0 = so) (h1 : μ z 1 = hs) (h2 : μ z 2 = fr) (h3 : μ z 3 = ma) (hlim : μ 7 0 = lim) (hn : μ 7 2 = n0) (n4 : n0 ≤ 4) (hso : 1 ≤ so ∧ so ≤ 5) (hma : 0 ≤ ma ∧ ma ≤ 9) (hhs : 0 ≤ hs ∧ hs ≤ 60) (hl6 : lim ≤ 60) (hmat : jh_mats μ 7) (hcy : ∀ m, 0 ≤ m → m < n0 → μ (μ 8 m) 0 = cy m) (hla0 : ∀ p, 0 ≤ p → p < n0 → μ 46 p = la p ∧ 0 ≤ la p ∧ la p < n0) (hly : μ 47 = ly) (hlf : μ 48 = lf) (hl : ∀ m, 0 ≤ m → m < 4 → 0 ≤ ly m ∧ ly m ≤ lim) (kk : ∀ μ2 : jm_M, (∀ u, u ≠ 47 → u ≠ 48 → μ2 u = μ u) → μ2 47 = (jg so fr ma hs lim cy la ly lf n0.toNat).2.1 → μ2 48 = (jg so fr ma hs lim cy la ly lf n0.toNat).2.2 → Q [.inl (jg so fr ma hs lim cy la ly lf n0.toNat).1] μ2) : cV X (d + 2) 84 [.inr (.inr 45), .inr (.inr 7), .inr (.inr z)] μ Q := by
  refine jv_enter (d := d + 1) jm_p_X8_goOver [some (.inr (.inr 45)), some (.inr (.inr 7)), some (.inr (.inr z)), none, none, none, none] rfl rfl rfl (Nat.le_of_ble_eq_true rfl) rfl rfl ?_
  refine jv_aload_n rfl rfl rfl (by have := hz.2; omega) ?_
  refine jv_geti rfl rfl hz.1 ⟨hz.2.1, rfl⟩ (by decide) ?_
  refine jv_istore_n (fun x => [some (.inr (.inr 45)), some (.inr (.inr 7)), some (.inr (.inr z)), some (.inl x), none, none, none]) rfl rfl (fun _ => rfl) (fun x3_2 ex3_2 => ?_)
  refine jv_iconst rfl rfl ?_
  refine jv_istoreK (L2 := [some (.inr (.inr 45)), some (.inr (.inr 7)), some (.inr (.inr z)), some (.inl x3_2), some (.inl 0), none, none]) rfl rfl rfl ?_
  refine cl_goOver45_l hz zb h0 h1 h2 h3 hlim hn n4 hso hma hhs hl6 hmat hcy hla0 hly hlf hl kk 9 0 x3_2 0 _ _ μ rfl (by omega) (by omega) (by rw [ex3_2]; exact h1) (fun _ _ _ => rfl) hly hlf
set_option maxRecDepth 10000 in
theorem cl_goOver50_l {X : jm_X} {d : Nat} {Q : jv_P} {so fr ma hs lim n0 z : Int} {cy la ly lf : Int → Int} {μ0 : jm_M} (hz : jz_com z) (zb : z ≠ 52 ∧ z ≠ 53) (h0 : μ0 z 0 = so) (h1 : μ0 z 1 = hs) (h2 : μ0 z 2 = fr) (h3 : μ0 z 3 = ma) (hlim : μ0 7 0 = lim) (hn : μ0 7 2 = n0) (n4 : n0 ≤ 4) (hso : 1 ≤ so ∧ so ≤ 5) (hma : 0 ≤ ma ∧ ma ≤ 9) (hhs : 0 ≤ hs ∧ hs ≤ 60) (hl6 : lim ≤ 60) (hmat : jh_mats μ0 7) (hcy : ∀ m, 0 ≤ m → m < n0 → μ0 (μ0 8 m) 0 = cy m) (hla0 : ∀ p, 0 ≤ p → p < n0 → μ0 51 p = la p ∧ 0 ≤ la p ∧ la p < n0) (hly : μ0 52 = ly) (hlf : μ0 53 = lf) (hl : ∀ m, 0 ≤ m → m < 4 → 0 ≤ ly m ∧ ly m ≤ lim) (kk : ∀ μ2 : jm_M, (∀ u, u ≠ 52 → u ≠ 53 → μ2 u = μ0 u) → μ2 52 = (jg so fr ma hs lim cy la ly lf n0.toNat).2.1 → μ2 53 = (jg so fr ma hs lim cy la ly lf n0.toNat).2.2 → Q [.inl (jg so fr ma hs lim cy la ly lf n0.toNat).1] μ2) : ∀ (n k : Nat) (y w : Int) (o5 o6 : Option jm_V) (μ : jm_M), w = k → w ≤ n0 → n0 - w < n → y = (jg so fr ma hs lim cy la ly lf k).1 → (∀ u, u ≠ 52 → u ≠ 53 → μ u = μ0 u) → μ 52 = (jg so fr ma hs lim cy la ly lf k).2.1 → μ 53 = (jg so fr ma hs lim cy la ly lf k).2.2 → jV X (d + 1) jm_p_X8_goOver Q 5 [some (.inr (.inr 50)), some (.inr (.inr 7)), some (.inr (.inr z)), some (.inl y), some (.inl w), o5, o6] [] μ := by
  intro n
  induction n with
  | zero => intro k y w o5 o6 μ ek x1 xn ey f eb ec; exfalso; omega
  | succ n ih =>
    intro k y w o5 o6 μ ek x1 xn ey f eb ec
    have hla : ∀ p, 0 ≤ p → p < n0 → 0 ≤ la p ∧ la p < 4 := fun p p0 p1 => by have q := hla0 p p0 p1; omega
    have hr := jg_r (so := so) (fr := fr) (cy := cy) (lf := lf) hma hhs hla hl k (by omega)
    have hry := hr.1
    rw [← ey] at hry
    have f72 : μ 7 2 = n0 := by rw [f 7 (by decide) (by decide)]; exact hn
    have f70 : μ 7 0 = lim := by rw [f 7 (by decide) (by decide)]; exact hlim
    have fz : μ z = μ0 z := f z zb.1 zb.2
    have f8 : μ 8 = μ0 8 := f 8 (by decide) (by decide)
    have fa : μ 51 = μ0 51 := f 51 (by decide) (by decide)
    have hmt : jh_mats μ 7 := by
      unfold jh_mats at hmat ⊢
      show _
      rw [show (7 : Int) + 1 = 8 from rfl, show (7 : Int) + 2 = 9 from rfl] at *
      rw [f8, f 9 (by decide) (by decide)]
      exact hmat
    have gz0 : μ z 0 = so := by rw [fz]; exact h0
    have gz2 : μ z 2 = fr := by rw [fz]; exact h2
    have gz3 : μ z 3 = ma := by rw [fz]; exact h3
    have hp : w < n0 → μ 51 w = la w ∧ 0 ≤ la w ∧ la w < n0 := fun q => by rw [fa]; exact hla0 w (by omega) q
    have hcm : ∀ m, 0 ≤ m → m < n0 → μ (μ 8 m) 0 = cy m := fun m m0 m1 => by
      have q := jz_mat7 hmat (m := m) m0 (by omega)
      have q3 : μ0 8 m = 7 + 3 ∨ μ0 8 m = 7 + 5 ∨ μ0 8 m = 7 + 7 ∨ μ0 8 m = 7 + 9 := hmat.1 m m0 (by omega)
      rw [f8, f _ (by omega) (by omega)]
      exact hcy m m0 m1
    refine jv_iload rfl rfl rfl ?_
    refine jv_aload_n rfl rfl rfl (by decide) ?_
    refine jv_geti rfl rfl rfl ⟨by decide, rfl⟩ (by decide) ?_
    refine jv_icmp_ge rfl rfl rfl (fun c8 => ?_) (fun c8 => ?_)
    · refine jv_iload_n rfl rfl rfl ?_
      refine jv_ireturn rfl (Or.inl rfl) ?_
      have hk : n0.toNat = k := by omega
      rw [ey, ← hk]
      exact kk _ f (by rw [hk]; exact eb) (by rw [hk]; exact ec)
    · refine jv_aload_n rfl rfl rfl (by decide) ?_
      refine jv_getr (w := 51) rfl rfl rfl ⟨by decide, rfl⟩ rfl rfl ?_
      refine jv_iload rfl rfl rfl ?_
      refine jv_iaload rfl rfl (by decide) rfl ⟨by omega, by omega⟩ ?_
      refine jv_istore (fun x => [some (.inr (.inr 50)), some (.inr (.inr 7)), some (.inr (.inr z)), some (.inl y), some (.inl w), some (.inl x), o6]) rfl rfl (fun _ => rfl) (fun x5_13 ex5_13 => ?_)
      refine jv_aload_n rfl rfl rfl (by have := hz.2; omega) ?_
      refine jv_iload rfl rfl rfl ?_
      refine jv_aload_n rfl rfl rfl (by decide) ?_
      refine jv_getr (w := 8) rfl rfl rfl ⟨by decide, rfl⟩ rfl rfl ?_
      refine jv_iload rfl rfl rfl ?_
      have hx5 : x5_13 = la w ∧ 0 ≤ x5_13 ∧ x5_13 < n0 := by have q := hp (by omega); omega
      have hzm := jz_mat7 hmt (m := x5_13) (by omega) (by omega)
      have hlx : 0 ≤ μ 52 x5_13 ∧ μ 52 x5_13 ≤ lim := by rw [eb]; exact hr.2 _ (by omega) (by omega)
      refine jv_aaload rfl rfl rfl ⟨by decide, by decide, by decide⟩ ⟨by omega, by omega⟩ ?_
      refine jv_geti rfl rfl hzm.1 ⟨hzm.2.2.1, rfl⟩ (by decide) ?_
      refine jv_iload_n rfl rfl rfl ?_
      refine jv_callV3 rfl rfl rfl hz.1 ⟨hz.2.1, rfl⟩ (Nat.le_of_ble_eq_true rfl) (cl_wipes hz (by omega) (by omega) (by omega) ?_)
      show jV _ _ jm_p_X8_goOver _ 23 [some (.inr (.inr 50)), some (.inr (.inr 7)), some (.inr (.inr z)), some (.inl y), some (.inl w), some (.inl x5_13), o6] [.inl (jt_wip (μ z 0) (μ z 2) (μ z 3) w (μ (μ 8 x5_13) 0) y)] μ
      refine jv_istore (fun x => [some (.inr (.inr 50)), some (.inr (.inr 7)), some (.inr (.inr z)), some (.inl y), some (.inl w), some (.inl x5_13), some (.inl x)]) rfl rfl (fun _ => rfl) (fun x6_23 ex6_23 => ?_)
      refine jv_aload_n rfl rfl rfl (by decide) ?_
      refine jv_getr (w := 53) rfl rfl rfl ⟨by decide, rfl⟩ rfl rfl ?_
      refine jv_iload rfl rfl rfl ?_
      refine jv_iload rfl rfl rfl ?_
      refine jv_iload_n rfl rfl rfl ?_
      refine jv_aload_n rfl rfl rfl (by decide) ?_
      refine jv_geti rfl rfl rfl ⟨by decide, rfl⟩ (by decide) ?_
      refine jv_aload_n rfl rfl rfl (by decide) ?_
      refine jv_getr (w := 52) rfl rfl rfl ⟨by decide, rfl⟩ rfl rfl ?_
      refine jv_iload rfl rfl rfl ?_
      refine jv_iaload rfl rfl (by decide) rfl ⟨by omega, by omega⟩ ?_
      refine jv_isub rfl rfl ⟨by omega, by omega⟩ ?_
      refine jv_min rfl rfl (Nat.le_of_ble_eq_true rfl) ?_
      refine jv_min rfl rfl (Nat.le_of_ble_eq_true rfl) ?_
      refine jv_iastore rfl rfl rfl (by decide) ⟨by omega, by omega⟩ (fun μ38 eμ38 => ?_)
      have q48 : μ38 53 = jm_u1 (μ 53) x5_13 (min x6_23 (min y (μ 7 0 - μ 52 x5_13))) := by rw [eμ38]; rfl
      have qV : μ38 53 x5_13 = (min x6_23 (min y (μ 7 0 - μ 52 x5_13))) := by rw [q48]; exact if_pos rfl
      have q49 : μ38 53 = jm_u1 (μ 53) x5_13 (μ38 53 x5_13) := by rw [qV]; exact q48
      have e48 : μ38 53 x5_13 = jg_b so fr ma lim cy w x5_13 y (μ 52 x5_13) := by rw [qV, ex6_23, gz0, gz2, gz3, hcm _ (by omega) (by omega), f70]; rfl
      have e47 : μ38 52 = μ 52 := by rw [eμ38]; rfl
      have e47x : μ38 52 x5_13 = μ 52 x5_13 := by rw [e47]
      have hB := jg_b_r (so := so) (fr := fr) (cy := cy) (p := w) (m := x5_13) hma hry hlx
      rw [← e48] at hB
      have eB : μ38 53 x5_13 = jg_b so fr ma lim cy k (la k) (jg so fr ma hs lim cy la ly lf k).1 ((jg so fr ma hs lim cy la ly lf k).2.1 (la k)) := by rw [e48, eb, hx5.1, ey, ek]
      refine jv_aload_n rfl rfl rfl (by decide) ?_
      refine jv_getr (w := 52) rfl rfl rfl ⟨by decide, rfl⟩ rfl rfl ?_
      refine jv_iload rfl rfl rfl ?_
      refine jv_dup2 rfl rfl ?_
      refine jv_iaload rfl rfl (by decide) rfl ⟨by omega, by omega⟩ ?_
      refine jv_aload_n rfl rfl rfl (by decide) ?_
      refine jv_getr (w := 53) rfl rfl rfl ⟨by decide, rfl⟩ rfl rfl ?_
      refine jv_iload rfl rfl rfl ?_
      refine jv_iaload rfl rfl (by decide) rfl ⟨by omega, by omega⟩ ?_
      refine jv_iadd rfl rfl ⟨by omega, by omega⟩ ?_
      refine jv_iastore rfl rfl rfl (by decide) ⟨by omega, by omega⟩ (fun μ49 eμ49 => ?_)
      have e48b : μ49 53 x5_13 = μ38 53 x5_13 := by rw [eμ49]; rfl
      refine jv_iload_n rfl rfl rfl ?_
      refine jv_aload_n rfl rfl rfl (by decide) ?_
      refine jv_getr (w := 53) rfl rfl rfl ⟨by decide, rfl⟩ rfl rfl ?_
      refine jv_iload rfl rfl rfl ?_
      refine jv_iaload rfl rfl (by decide) rfl ⟨by omega, by omega⟩ ?_
      refine jv_isub rfl rfl ⟨by omega, by omega⟩ ?_
      refine jv_istore_n (fun x => [some (.inr (.inr 50)), some (.inr (.inr 7)), some (.inr (.inr z)), some (.inl x), some (.inl w), some (.inl x5_13), some (.inl x6_23)]) rfl rfl (fun _ => rfl) (fun x3_56 ex3_56 => ?_)
      refine jv_iinc (fun x => [some (.inr (.inr 50)), some (.inr (.inr 7)), some (.inr (.inr z)), some (.inl x3_56), some (.inl x), some (.inl x5_13), some (.inl x6_23)]) rfl rfl rfl ⟨by omega, by omega⟩ (fun _ => rfl) (fun x4_57 ex4_57 => ?_)
      refine jv_goto rfl rfl ?_
      refine ih (k + 1) x3_56 x4_57 _ _ μ49 (by omega) (by omega) (by omega) ?_ (fun u a1 b1 => by rw [eμ49, jm_off1 a1, eμ38, jm_off1 b1]; exact f u a1 b1) ?_ ?_
      · rw [ex3_56, e48b, eB, ey]
        rfl
      · have q7 : μ49 52 = jm_u1 (μ38 52) x5_13 (μ38 52 x5_13 + μ38 53 x5_13) := by rw [eμ49]; rfl
        rw [q7, e47, eB, eb, hx5.1, ek]
        rfl
      · have q8 : μ49 53 = μ38 53 := by rw [eμ49]; rfl
        rw [q8, q49, eB, ec, hx5.1, ek]
        rfl
set_option maxRecDepth 10000 in
theorem cl_goOver50 {X : jm_X} {d : Nat} {Q : jv_P} {μ : jm_M} {so fr ma hs lim n0 z : Int} {cy la ly lf : Int → Int} (hn0 : 0 ≤ n0) (hz : jz_com z) (zb : z ≠ 52 ∧ z ≠ 53) (h0 : μ z 0 = so) (h1 : μ z 1 = hs) (h2 : μ z 2 = fr) (h3 : μ z 3 = ma) (hlim : μ 7 0 = lim) (hn : μ 7 2 = n0) (n4 : n0 ≤ 4) (hso : 1 ≤ so ∧ so ≤ 5) (hma : 0 ≤ ma ∧ ma ≤ 9) (hhs : 0 ≤ hs ∧ hs ≤ 60) (hl6 : lim ≤ 60) (hmat : jh_mats μ 7) (hcy : ∀ m, 0 ≤ m → m < n0 → μ (μ 8 m) 0 = cy m) (hla0 : ∀ p, 0 ≤ p → p < n0 → μ 51 p = la p ∧ 0 ≤ la p ∧ la p < n0) (hly : μ 52 = ly) (hlf : μ 53 = lf) (hl : ∀ m, 0 ≤ m → m < 4 → 0 ≤ ly m ∧ ly m ≤ lim) (kk : ∀ μ2 : jm_M, (∀ u, u ≠ 52 → u ≠ 53 → μ2 u = μ u) → μ2 52 = (jg so fr ma hs lim cy la ly lf n0.toNat).2.1 → μ2 53 = (jg so fr ma hs lim cy la ly lf n0.toNat).2.2 → Q [.inl (jg so fr ma hs lim cy la ly lf n0.toNat).1] μ2) : cV X (d + 2) 84 [.inr (.inr 50), .inr (.inr 7), .inr (.inr z)] μ Q := by
  refine jv_enter (d := d + 1) jm_p_X8_goOver [some (.inr (.inr 50)), some (.inr (.inr 7)), some (.inr (.inr z)), none, none, none, none] rfl rfl rfl (Nat.le_of_ble_eq_true rfl) rfl rfl ?_
  refine jv_aload_n rfl rfl rfl (by have := hz.2; omega) ?_
  refine jv_geti rfl rfl hz.1 ⟨hz.2.1, rfl⟩ (by decide) ?_
  refine jv_istore_n (fun x => [some (.inr (.inr 50)), some (.inr (.inr 7)), some (.inr (.inr z)), some (.inl x), none, none, none]) rfl rfl (fun _ => rfl) (fun x3_2 ex3_2 => ?_)
  refine jv_iconst rfl rfl ?_
  refine jv_istoreK (L2 := [some (.inr (.inr 50)), some (.inr (.inr 7)), some (.inr (.inr z)), some (.inl x3_2), some (.inl 0), none, none]) rfl rfl rfl ?_
  refine cl_goOver50_l hz zb h0 h1 h2 h3 hlim hn n4 hso hma hhs hl6 hmat hcy hla0 hly hlf hl kk 9 0 x3_2 0 _ _ μ rfl (by omega) (by omega) (by rw [ex3_2]; exact h1) (fun _ _ _ => rfl) hly hlf
