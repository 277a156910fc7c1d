/-! what a place's tides are: the state, and what each call answers, in integers -/
abbrev TS : Type := Int × (Nat → Nat) × (Nat → Nat) × (Nat → Nat) × (Nat → Nat → Nat) × (Nat → Nat → Nat) × (Nat → Nat)
def tt_lev (g : TS) : Int := g.1
def tt_amp (g : TS) : Nat → Nat := g.2.1
def tt_spd (g : TS) : Nat → Nat := g.2.2.1
def tt_pha (g : TS) : Nat → Nat := g.2.2.2.1
def tt_fac (g : TS) : Nat → Nat → Nat := g.2.2.2.2.1
def tt_shf (g : TS) : Nat → Nat → Nat := g.2.2.2.2.2.1
def tt_day (g : TS) : Nat → Nat := g.2.2.2.2.2.2
def tt_ok (g : TS) : Prop := (-1000000 ≤ tt_lev g ∧ tt_lev g ≤ 1000000) ∧ (∀ i, i < 8 → tt_amp g i ≤ 100000 ∧ tt_spd g i < 1099511627776 ∧ tt_pha g i < 281474976710656) ∧ (∀ i, i < 8 → ∀ y, y < 10 → tt_fac g i y ≤ 81920 ∧ tt_shf g i y < 281474976710656) ∧ ∀ y, y < 10 → tt_day g y = 365 ∨ tt_day g y = 366
/-- days before a year -/
def tt_db (d : Nat → Nat) : Nat → Nat
  | 0 => 0
  | n + 1 => tt_db d n + d n
def tt_fst (g : TS) (y : Nat) : Nat := 1440 * tt_db (tt_day g) y
theorem tt_db_le (d : Nat → Nat) {a b : Nat} (h : a ≤ b) : tt_db d a ≤ tt_db d b := by
  induction b with
  | zero => rw [show a = 0 by omega]; exact Nat.le_refl _
  | succ n ih =>
    by_cases e : a = n + 1
    · rw [e]; exact Nat.le_refl _
    · exact Nat.le_trans (ih (by omega)) (Nat.le_add_right _ _)
theorem tt_db_in {d : Nat → Nat} (hd : ∀ y, y < 10 → d y = 365 ∨ d y = 366) : ∀ n, n ≤ 10 → 365 * n ≤ tt_db d n ∧ tt_db d n ≤ 366 * n := by
  intro n
  induction n with
  | zero => intro _; exact ⟨Nat.le_refl _, Nat.le_refl _⟩
  | succ n ih =>
    intro h
    have h1 := ih (by omega)
    have h2 := hd n (by omega)
    show 365 * (n + 1) ≤ tt_db d n + d n ∧ tt_db d n + d n ≤ 366 * (n + 1)
    omega
theorem tt_db_lt {d : Nat → Nat} (hd : ∀ y, y < 10 → d y = 365 ∨ d y = 366) {n : Nat} (h : n < 10) : tt_db d n < tt_db d (n + 1) := by
  have h2 := hd n h
  show tt_db d n < tt_db d n + d n
  omega
/-- the year of a minute -/
def tt_yrA (d : Nat → Nat) (m : Nat) : Nat → Nat
  | 0 => 0
  | n + 1 => if 1440 * tt_db d (n + 1) ≤ m then n + 1 else tt_yrA d m n
def tt_yr (g : TS) (m : Nat) : Nat := tt_yrA (tt_day g) m 9
theorem tt_yrA_le (d : Nat → Nat) (m n : Nat) : tt_yrA d m n ≤ n := by
  induction n with
  | zero => exact Nat.le_refl _
  | succ n ih =>
    unfold tt_yrA
    split
    · exact Nat.le_refl _
    · omega
theorem tt_yrA_fst (d : Nat → Nat) (m n : Nat) : 1440 * tt_db d (tt_yrA d m n) ≤ m := by
  induction n with
  | zero => exact Nat.zero_le _
  | succ n ih =>
    unfold tt_yrA
    split
    · assumption
    · exact ih
theorem tt_yrA_nxt (d : Nat → Nat) (m n : Nat) : ∀ y, tt_yrA d m n < y → y ≤ n → m < 1440 * tt_db d y := by
  induction n with
  | zero => intro y h1 h2; omega
  | succ n ih =>
    intro y
    unfold tt_yrA
    split
    · intro h1 h2; omega
    · intro h1 h2
      by_cases e : y = n + 1
      · rw [e]; omega
      · exact ih y h1 (by omega)
theorem tt_yr_lt (g : TS) (m : Nat) : tt_yr g m < 10 := by
  have := tt_yrA_le (tt_day g) m 9
  show tt_yrA (tt_day g) m 9 < 10
  omega
theorem tt_yr_is {g : TS} {m y : Nat} (h0 : y < 10) (h1 : tt_fst g y ≤ m) (h2 : y < 9 → m < tt_fst g (y + 1)) : tt_yr g m = y := by
  have a1 := tt_yrA_le (tt_day g) m 9
  have a2 := tt_yrA_fst (tt_day g) m 9
  have a3 := tt_yrA_nxt (tt_day g) m 9
  unfold tt_yr
  generalize tt_yrA (tt_day g) m 9 = z at a1 a2 a3 ⊢
  unfold tt_fst at h1 h2
  rcases Nat.lt_trichotomy z y with h | h | h
  · have := a3 y h (by omega)
    omega
  · exact h
  · have h3 := h2 (by omega)
    have h4 := tt_db_le (tt_day g) (show y + 1 ≤ z from h)
    omega
/-- a position on the wheel -/
def tt_pos (g : TS) (i m y : Nat) : Nat := (tt_pha g i + tt_spd g i * m + tt_shf g i y) % 281474976710656
theorem tt_pos_lt (g : TS) (i m y : Nat) : tt_pos g i m y < 281474976710656 := Nat.mod_lt _ (by decide)
/-- the cosine -/
def tt_cr (x : Nat) : Nat := if x / 70368744177664 % 2 = 1 then 1073741824 - x / 65536 % 1073741824 else x / 65536 % 1073741824
def tt_cs (x : Nat) : Nat := tt_cr x * tt_cr x / 1073741824
def tt_ce (s : Nat) : Nat := 22401992 - 960477 * s / 1073741824
def tt_cf (s : Nat) : Nat := 272375561 - tt_ce s * s / 1073741824
def tt_cg (s : Nat) : Nat := 1324675870 - tt_cf s * s / 1073741824
def tt_cc (s : Nat) : Int := 1073741824 - ((tt_cg s * s / 1073741824 : Nat) : Int)
def tt_cos (x : Nat) : Int := if x / 70368744177664 = 1 ∨ x / 70368744177664 = 2 then - tt_cc (tt_cs x) else tt_cc (tt_cs x)
theorem tt_mul_div {a s A : Nat} (h : a ≤ A) (hs : s ≤ 1073741824) : a * s / 1073741824 ≤ A := by
  have h1 : a * s ≤ A * 1073741824 := Nat.mul_le_mul h hs
  have h2 : a * s / 1073741824 ≤ A * 1073741824 / 1073741824 := Nat.div_le_div_right h1
  rw [Nat.mul_div_cancel _ (by decide)] at h2
  exact h2
theorem tt_cr_le (x : Nat) : tt_cr x ≤ 1073741824 := by
  unfold tt_cr
  have := Nat.mod_lt (x / 65536) (show 0 < 1073741824 by decide)
  split <;> omega
theorem tt_cs_le (x : Nat) : tt_cs x ≤ 1073741824 := tt_mul_div (tt_cr_le x) (tt_cr_le x)
theorem tt_ce_in {s : Nat} (hs : s ≤ 1073741824) : tt_ce s ≤ 22401992 ∧ 960477 * s / 1073741824 ≤ 960477 := ⟨Nat.sub_le _ _, tt_mul_div (Nat.le_refl _) hs⟩
theorem tt_cf_in {s : Nat} (hs : s ≤ 1073741824) : tt_cf s ≤ 272375561 ∧ tt_ce s * s / 1073741824 ≤ 22401992 := ⟨Nat.sub_le _ _, tt_mul_div (tt_ce_in hs).1 hs⟩
theorem tt_cg_in {s : Nat} (hs : s ≤ 1073741824) : tt_cg s ≤ 1324675870 ∧ tt_cf s * s / 1073741824 ≤ 272375561 := ⟨Nat.sub_le _ _, tt_mul_div (tt_cf_in hs).1 hs⟩
theorem tt_cc_in {s : Nat} (hs : s ≤ 1073741824) : -1073741824 ≤ tt_cc s ∧ tt_cc s ≤ 1073741824 := by
  have h := tt_mul_div (tt_cg_in hs).1 hs
  unfold tt_cc
  omega
theorem tt_cos_in (x : Nat) : -1073741824 ≤ tt_cos x ∧ tt_cos x ≤ 1073741824 := by
  have h := tt_cc_in (tt_cs_le x)
  unfold tt_cos
  split <;> omega
/-- one constituent's part of a height -/
def tt_prt (g : TS) (m y i : Nat) : Int := ((tt_amp g i * tt_fac g i y : Nat) : Int) * tt_cos (tt_pos g i m y) / 65536
def tt_sum (g : TS) (m y : Nat) : Nat → Int
  | 0 => 536870912
  | n + 1 => tt_sum g m y n + tt_prt g m y n
def tt_hgt (g : TS) (m : Nat) : Int := tt_sum g m (tt_yr g m) 8 / 1073741824 + tt_lev g
theorem tt_af_le {g : TS} (h : tt_ok g) {i y : Nat} (hi : i < 8) (hy : y < 10) : tt_amp g i * tt_fac g i y ≤ 8192000000 := Nat.mul_le_mul (h.2.1 i hi).1 (h.2.2.1 i hi y hy).1
theorem tt_prd {a : Nat} {c : Int} (ha : a ≤ 8192000000) (h1 : -1073741824 ≤ c) (h2 : c ≤ 1073741824) : -8796093022208000000 ≤ (a : Int) * c ∧ (a : Int) * c ≤ 8796093022208000000 := by
  have e1 : (a : Int) * c ≤ (a : Int) * 1073741824 := Int.mul_le_mul_of_nonneg_left h2 (by omega)
  have e2 : (a : Int) * (-1073741824) ≤ (a : Int) * c := Int.mul_le_mul_of_nonneg_left h1 (by omega)
  omega
theorem tt_prt_in {g : TS} (h : tt_ok g) {m i y : Nat} (hi : i < 8) (hy : y < 10) : -134217728000000 ≤ tt_prt g m y i ∧ tt_prt g m y i ≤ 134217728000000 := by
  have e := tt_cos_in (tt_pos g i m y)
  have e2 := tt_prd (tt_af_le h hi hy) e.1 e.2
  unfold tt_prt
  omega
theorem tt_sum_in {g : TS} (h : tt_ok g) {m y : Nat} (hy : y < 10) : ∀ n : Nat, n ≤ 8 → 536870912 - 134217728000000 * (n : Int) ≤ tt_sum g m y n ∧ tt_sum g m y n ≤ 536870912 + 134217728000000 * (n : Int) := by
  intro n
  induction n with
  | zero => intro _; show 536870912 - 134217728000000 * ((0 : Nat) : Int) ≤ 536870912 ∧ 536870912 ≤ 536870912 + 134217728000000 * ((0 : Nat) : Int); omega
  | succ n ih =>
    intro hn
    have h1 := ih (by omega)
    have h2 := tt_prt_in h (m := m) (show n < 8 by omega) hy
    show 536870912 - 134217728000000 * ((n + 1 : Nat) : Int) ≤ tt_sum g m y n + tt_prt g m y n ∧ tt_sum g m y n + tt_prt g m y n ≤ 536870912 + 134217728000000 * ((n + 1 : Nat) : Int)
    omega
theorem tt_hgt_in {g : TS} (h : tt_ok g) (m : Nat) : -2000000 ≤ tt_hgt g m ∧ tt_hgt g m ≤ 2000000 := by
  have h1 := tt_sum_in h (m := m) (tt_yr_lt g m) 8 (Nat.le_refl _)
  have h2 := h.1
  unfold tt_hgt
  omega
/-- the extremes of a day -/
def tt_bh (h : Nat → Int) (v : Int) : Nat → Nat → Nat
  | 0, b => b
  | n + 1, b => if h b = v then tt_bh h v n (b + 1) else b
def tt_nx (h : Nat → Int) (m : Nat) : Nat := tt_bh h (h m) (1440 - (m + 1)) (m + 1)
def tt_T (h : Nat → Int) (m : Nat) : Bool := decide (1 ≤ m) && (decide (h (m - 1) ≠ h m) && (decide (tt_nx h m < 1440) && (decide (h (m - 1) < h m) == decide (h (tt_nx h m) < h m))))
def tt_L (h : Nat → Int) (n : Nat) : List Nat := (List.range n).filter (tt_T h)
theorem tt_L_succ (h : Nat → Int) (n : Nat) : tt_L h (n + 1) = if tt_T h n then tt_L h n ++ [n] else tt_L h n := by
  unfold tt_L
  rw [List.range_succ, List.filter_append]
  cases e : tt_T h n <;> simp [e]
theorem tt_L_len (h : Nat → Int) (n : Nat) : (tt_L h n).length ≤ n := by
  have := List.length_filter_le (tt_T h) (List.range n)
  rw [List.length_range] at this
  exact this
theorem tt_L_0 (h : Nat → Int) : tt_L h 0 = [] := rfl
theorem tt_T_0 (h : Nat → Int) : tt_T h 0 = false := rfl
theorem tt_L_len1 (h : Nat → Int) (n : Nat) : (tt_L h (n + 1)).length ≤ n := by
  induction n with
  | zero => rw [tt_L_succ, tt_T_0]; exact Nat.le_refl _
  | succ n ih =>
    rw [tt_L_succ]
    split
    · rw [List.length_append]; exact Nat.add_le_add_right ih 1
    · omega
theorem tt_bh_ge (h : Nat → Int) (v : Int) : ∀ n b, b ≤ tt_bh h v n b ∧ tt_bh h v n b ≤ b + n := by
  intro n
  induction n with
  | zero => intro b; exact ⟨Nat.le_refl _, Nat.le_refl _⟩
  | succ n ih =>
    intro b
    unfold tt_bh
    have := ih (b + 1)
    split <;> omega
theorem tt_bh_same (h : Nat → Int) (v : Int) : ∀ n b j, b ≤ j → j < tt_bh h v n b → h j = v := by
  intro n
  induction n with
  | zero => intro b j h1 h2; simp only [tt_bh] at h2; omega
  | succ n ih =>
    intro b j h1 h2
    unfold tt_bh at h2
    split at h2
    · rename_i e
      by_cases q : j = b
      · rw [q]; exact e
      · exact ih (b + 1) j (by omega) h2
    · omega
theorem tt_bh_at (h : Nat → Int) (v : Int) : ∀ n b, tt_bh h v n b < b + n → h (tt_bh h v n b) ≠ v := by
  intro n
  induction n with
  | zero => intro b h1; simp only [tt_bh] at h1; omega
  | succ n ih =>
    intro b h1
    unfold tt_bh at h1 ⊢
    split at h1
    · rename_i e
      rw [if_pos e]
      exact ih (b + 1) (by omega)
    · rename_i e
      rw [if_neg e]
      exact e
theorem tt_bh_is {h : Nat → Int} {v : Int} {n b k : Nat} (h1 : b ≤ k) (h2 : k < b + n) (h3 : ∀ j, b ≤ j → j < k → h j = v) (h4 : h k ≠ v) : tt_bh h v n b = k := by
  have a1 := tt_bh_ge h v n b
  have a2 := tt_bh_same h v n b
  have a3 := tt_bh_at h v n b
  generalize tt_bh h v n b = z at a1 a2 a3 ⊢
  rcases Nat.lt_trichotomy z k with q | q | q
  · exact absurd (h3 z a1.1 q) (a3 (by omega))
  · exact q
  · exact absurd (a2 k h1 q) h4
/-- heights that are all higher by the same have the same extremes -/
theorem tt_bh_add (h : Nat → Int) (v w : Int) : ∀ n b, tt_bh (fun k => h k + w) (v + w) n b = tt_bh h v n b := by
  intro n
  induction n with
  | zero => intro b; rfl
  | succ n ih =>
    intro b
    unfold tt_bh
    rw [ih (b + 1)]
    by_cases e : h b = v
    · rw [if_pos e, if_pos (by rw [e])]
    · rw [if_neg e, if_neg (by omega)]
theorem tt_T_add (h : Nat → Int) (w : Int) (m : Nat) : tt_T (fun k => h k + w) m = tt_T h m := by
  have e : tt_nx (fun k => h k + w) m = tt_nx h m := tt_bh_add h (h m) w _ _
  unfold tt_T
  rw [e]
  have e1 : decide (h (m - 1) + w ≠ h m + w) = decide (h (m - 1) ≠ h m) := decide_eq_decide.mpr (by omega)
  have e2 : decide (h (m - 1) + w < h m + w) = decide (h (m - 1) < h m) := decide_eq_decide.mpr (by omega)
  have e3 : decide (h (tt_nx h m) + w < h m + w) = decide (h (tt_nx h m) < h m) := decide_eq_decide.mpr (by omega)
  simp only [e1, e2, e3]
theorem tt_L_add (h : Nat → Int) (w : Int) (n : Nat) : tt_L (fun k => h k + w) n = tt_L h n := by
  unfold tt_L
  rw [show tt_T (fun k => h k + w) = tt_T h from funext (tt_T_add h w)]
