/-! what holds between the class's cells (0 .. 93) and the reference's (94 .. 103) ahead of every call -/
/-- the rows -/
def ji_rows (μ : jm_M) : Prop := (∀ j, 0 ≤ j → j < 320 → μ 2 j = μ 99 j) ∧ ∀ r, 0 ≤ r → r < 8 → μ 3 r = μ 97 r ∧ μ 4 r = μ 98 r ∧ (-1 ≤ μ 98 r ∧ μ 98 r ≤ 40) ∧ (0 ≤ μ 97 r ∧ μ 97 r ≤ 2)
def ji_tape (μ : jm_M) : Prop := μ 5 1 = μ 94 8 ∧ (0 ≤ μ 94 8 ∧ μ 94 8 ≤ 100) ∧ ∀ j, 0 ≤ j → j < μ 94 8 → μ 6 j = μ 100 j ∧ 0 ≤ μ 100 j ∧ μ 100 j ≤ 255
def ji_trace (μ : jm_M) : Prop := μ 58 1 = μ 94 12 ∧ (0 ≤ μ 94 12 ∧ μ 94 12 ≤ 16) ∧ ∀ j, 0 ≤ j → j < μ 94 12 → μ 59 j = μ 101 j
/-- the four mats of the house at h: each at one place -/
def jh_mats (μ : jm_M) (h : Int) : Prop := (∀ m, 0 ≤ m → m < 4 → μ (h + 1) m = h + 3 ∨ μ (h + 1) m = h + 5 ∨ μ (h + 1) m = h + 7 ∨ μ (h + 1) m = h + 9) ∧ (∀ m m', 0 ≤ m → m < 4 → 0 ≤ m' → m' < 4 → μ (h + 1) m = μ (h + 1) m' → m = m') ∧ ∀ c, 0 ≤ c → c < 6 → μ (h + 2) c = h + 11 + c
/-- the house at h is the town t -/
def jh_rel (μ : jm_M) (h : Int) (t : Int → Int) : Prop := (μ h 0 = t 2 ∧ μ h 1 = t 3 ∧ μ h 2 = t 0 ∧ μ h 3 = t 1) ∧
  (∀ m, 0 ≤ m → m < t 0 → μ (μ (h + 1) m) 0 = t (4 + m) ∧ ∀ k, 0 ≤ k → k < 6 → μ (μ (h + 1) m + 1) k = t (8 + 6 * m + k)) ∧ (∀ m, t 0 ≤ m → m < 4 → ∀ k, 0 ≤ k → k < 6 → μ (μ (h + 1) m + 1) k = 0) ∧
  (∀ c, 0 ≤ c → c < t 1 → μ (h + 11 + c) 0 = t (32 + c) ∧ μ (h + 11 + c) 1 = t (38 + c) ∧ μ (h + 11 + c) 2 = t (44 + c) ∧ μ (h + 11 + c) 3 = t (50 + c) ∧ μ (h + 11 + c) 4 = t (56 + c))
/-- kinds of comers that there are: 1 to 5 -/
def jt_kd (t : Int → Int) : Prop := ∀ c, 0 ≤ c → c < t 1 → 1 ≤ t (32 + c)
def ji_town (μ : jm_M) : Prop := jt_wf (μ 95) ∧ jt_cf (μ 95) 999 ∧ jt_kd (μ 95) ∧ jh_mats μ 7 ∧ jh_rel μ 7 (μ 95) ∧ (μ 94 1 = 0 ∨ μ 94 1 = 1) ∧ (μ 94 1 = 1 ↔ 1 ≤ μ 95 0) ∧ (μ 95 0 = 0 → μ 95 1 = 0)
/-- the other houses have their mats in their places -/
def ji_idle (μ : jm_M) : Prop := (∀ m, 0 ≤ m → m < 4 → μ 25 m = 27 + 2 * m ∧ μ 61 m = 63 + 2 * m ∧ μ 78 m = 80 + 2 * m) ∧ (∀ c, 0 ≤ c → c < 6 → μ 26 c = 35 + c ∧ μ 62 c = 71 + c ∧ μ 79 c = 88 + c) ∧ μ 41 0 = 60 ∧ μ 41 1 = 77
def ji_img (μ : jm_M) (k : Int) : Prop := μ 42 k = μ 96 k ∧ (μ 96 k = 0 ∨ μ 96 k = 1) ∧ (μ 96 k = 1 → jt_wf (fun j => μ 95 (1550 + 62 * k + j)) ∧ jt_cf (fun j => μ 95 (1550 + 62 * k + j)) 999 ∧ jt_kd (fun j => μ 95 (1550 + 62 * k + j)) ∧ jh_rel μ (60 + 17 * k) (fun j => μ 95 (1550 + 62 * k + j)) ∧ 1 ≤ μ 95 (1550 + 62 * k) ∧ μ 94 1 = 1)
/-- what an act may have altered, as numbers from s on, is the town p -/
def jg_cell (g : Int → Int) (s : Int) (p : Int → Int) : Prop := (∀ m, 0 ≤ m → m < p 0 → g (s + 7 * m) = p (4 + m) ∧ ∀ k, 0 ≤ k → k < 6 → g (s + 7 * m + 1 + k) = p (8 + 6 * m + k)) ∧ (∀ m, p 0 ≤ m → m < 4 → ∀ k, 0 ≤ k → k < 6 → g (s + 7 * m + 1 + k) = 0) ∧ ∀ c, 0 ≤ c → c < p 1 → g (s + 28 + 2 * c) = p (38 + c) ∧ g (s + 28 + 2 * c + 1) = p (56 + c)
/-- what no act alters -/
def jt_same (t p : Int → Int) : Prop := p 0 = t 0 ∧ p 1 = t 1 ∧ p 2 = t 2 ∧ p 3 = t 3 ∧ ∀ c, 0 ≤ c → c < t 1 → p (32 + c) = t (32 + c) ∧ p (44 + c) = t (44 + c) ∧ p (50 + c) = t (50 + c)
def ji_past (μ : jm_M) : Prop := (0 ≤ μ 94 2 ∧ μ 94 2 ≤ 24) ∧ μ 43 2 = μ 94 2 ∧ (0 ≤ μ 43 1 ∧ μ 43 1 < 24) ∧ ∀ k, 0 ≤ k → k < μ 94 2 →
  jt_wf (fun j => μ 95 (62 + 62 * k + j)) ∧ jt_cf (fun j => μ 95 (62 + 62 * k + j)) 999 ∧ jt_same (μ 95) (fun j => μ 95 (62 + 62 * k + j)) ∧ jg_cell (μ 44) (40 * ((μ 43 1 + 24 - μ 94 2 + k) % 24)) (fun j => μ 95 (62 + 62 * k + j))
def jI (μ : jm_M) : Prop := ji_rows μ ∧ ji_tape μ ∧ ji_trace μ ∧ (μ 0 11 = μ 94 10 ∧ μ 0 10 = μ 94 9) ∧ ji_town μ ∧ ji_idle μ ∧ (ji_img μ 0 ∧ ji_img μ 1) ∧ ji_past μ
/-- the class's method f and the reference's g answer alike -/
def jp (X : jm_X) (f g : Nat) (vs : List jm_V) : Prop := ∀ μ, jI μ → cV X 200 f (.inr (.inr 0) :: vs) μ (fun v μ1 => ∃ r, v = [.inl r] ∧ cV X 200 g (.inr (.inr 94) :: vs) μ1 (fun v2 μ2 => v2 = [.inl r] ∧ jI μ2))
