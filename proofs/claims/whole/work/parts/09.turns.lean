/-! the search for extremes, row by row -/
theorem tt_T_flat {h : Nat → Int} {m : Nat} (e : h (m - 1) = h m) : tt_T h m = false := by
  unfold tt_T
  simp [e]
theorem tt_L_skip {h : Nat → Int} {a : Nat} : ∀ b, a ≤ b → (∀ j, a ≤ j → j < b → tt_T h j = false) → tt_L h b = tt_L h a := by
  intro b
  induction b with
  | zero => intro h1 _; rw [show a = 0 by omega]
  | succ n ih =>
    intro h1 h2
    by_cases e : a = n + 1
    · rw [e]
    · rw [tt_L_succ, h2 n (by omega) (by omega)]
      exact ih (by omega) (fun j q1 q2 => h2 j q1 (by omega))
/-- at minute k the row begins at r, and it came by c -/
def tt_row (h : Nat → Int) (k r : Nat) (c : Int) : Prop := r < k ∧ k ≤ 1440 ∧ (∀ j, r ≤ j → j < k → h j = h r) ∧ ((r = 0 ∧ c = 0) ∨ (1 ≤ r ∧ h (r - 1) < h r ∧ c = 1) ∨ (1 ≤ r ∧ h r < h (r - 1) ∧ c = -1))
theorem tt_row_0 (h : Nat → Int) : tt_row h 1 0 0 := ⟨by omega, by omega, fun j _ q => by rw [show j = 0 by omega], Or.inl ⟨rfl, rfl⟩⟩
theorem tt_row_on {h : Nat → Int} {k r : Nat} {c : Int} (q : tt_row h k r c) (hk : k < 1440) (e : h k = h r) : tt_row h (k + 1) r c :=
  ⟨Nat.lt_succ_of_lt q.1, by omega, fun j h1 h2 => by
    by_cases e1 : j = k
    · rw [e1]; exact e
    · exact q.2.2.1 j h1 (by omega), q.2.2.2⟩
theorem tt_row_T {h : Nat → Int} {k r : Nat} {c : Int} (q : tt_row h k r c) (hk : k < 1440) (e : h k ≠ h r) : tt_T h r = true ↔ (c = -1 ∧ h r < h k) ∨ (c = 1 ∧ h k < h r) := by
  obtain ⟨q1, q2, q3, q4⟩ := q
  have hn : tt_nx h r = k := tt_bh_is (by omega) (by omega) (fun j a b => q3 j (by omega) b) e
  unfold tt_T
  rw [hn]
  rcases q4 with ⟨a, b⟩ | ⟨a, b, d⟩ | ⟨a, b, d⟩
  · subst a; subst b
    simp
  · subst d
    have e1 : decide (1 ≤ r) = true := decide_eq_true a
    have e2 : decide (h (r - 1) ≠ h r) = true := decide_eq_true (by omega)
    have e3 : decide (k < 1440) = true := decide_eq_true hk
    have e4 : decide (h (r - 1) < h r) = true := decide_eq_true b
    rw [e1, e2, e3, e4]
    by_cases z : h k < h r
    · simp [z]
    · simp [z]
  · subst d
    have e1 : decide (1 ≤ r) = true := decide_eq_true a
    have e2 : decide (h (r - 1) ≠ h r) = true := decide_eq_true (by omega)
    have e3 : decide (k < 1440) = true := decide_eq_true hk
    have e4 : decide (h (r - 1) < h r) = false := decide_eq_false (by omega)
    rw [e1, e2, e3, e4]
    by_cases z : h k < h r
    · have z2 : ¬ h r < h k := by omega
      simp [z, z2]
    · have z2 : h r < h k := by omega
      simp [z, z2]
theorem tt_row_flat {h : Nat → Int} {k r : Nat} {c : Int} (q : tt_row h k r c) : ∀ j, r < j → j < k → tt_T h j = false := fun j a b =>
  tt_T_flat (by rw [q.2.2.1 j (by omega) b, q.2.2.1 (j - 1) (by omega) (by omega)])
theorem tt_row_L {h : Nat → Int} {k r : Nat} {c : Int} (q : tt_row h k r c) : tt_L h k = if tt_T h r then tt_L h r ++ [r] else tt_L h r := by
  rw [tt_L_skip k (show r + 1 ≤ k from q.1) (fun j a b => tt_row_flat q j a b), tt_L_succ]
theorem tt_row_up {h : Nat → Int} {k r : Nat} {c : Int} (q : tt_row h k r c) (hk : k < 1440) (e : h r < h k) : tt_row h (k + 1) k 1 :=
  ⟨by omega, by omega, fun j a b => by rw [show j = k by omega], Or.inr (Or.inl ⟨by have := q.1; omega, by rw [q.2.2.1 (k - 1) (by have := q.1; omega) (by have := q.1; omega)]; exact e, rfl⟩)⟩
theorem tt_row_down {h : Nat → Int} {k r : Nat} {c : Int} (q : tt_row h k r c) (hk : k < 1440) (e : h k < h r) : tt_row h (k + 1) k (-1) :=
  ⟨by omega, by omega, fun j a b => by rw [show j = k by omega], Or.inr (Or.inr ⟨by have := q.1; omega, by rw [q.2.2.1 (k - 1) (by have := q.1; omega) (by have := q.1; omega)]; exact e, rfl⟩)⟩
theorem tt_row_end {h : Nat → Int} {r : Nat} {c : Int} (q : tt_row h 1440 r c) : tt_L h 1440 = tt_L h r := by
  rw [tt_row_L q]
  have e : tt_T h r = false := by
    have hge := tt_bh_ge h (h r) (1440 - (r + 1)) (r + 1)
    have hat := tt_bh_at h (h r) (1440 - (r + 1)) (r + 1)
    have q1 := q.1
    have hn : ¬ tt_nx h r < 1440 := by
      intro z
      unfold tt_nx at z
      exact hat (by omega) (q.2.2.1 _ (by omega) z)
    unfold tt_T
    simp [hn]
  rw [e]; rfl
/-- the k-th extreme, and of what kind -/
theorem tt_L_get {h : Nat → Int} {n k : Nat} (hk : k < (tt_L h n).length) : (tt_L h n).getD k 0 < n ∧ tt_T h ((tt_L h n).getD k 0) = true := by
  have e : (tt_L h n).getD k 0 = (tt_L h n)[k] := by simp [List.getD, hk]
  rw [e]
  have := List.getElem_mem hk
  unfold tt_L at this
  rw [List.mem_filter, List.mem_range] at this
  exact this
theorem tt_T_kind {h : Nat → Int} {m : Nat} (q : tt_T h m = true) : 1 ≤ m ∧ h (m - 1) ≠ h m ∧ tt_nx h m < 1440 ∧ (h (m - 1) < h m ↔ h (tt_nx h m) < h m) := by
  unfold tt_T at q
  simp only [Bool.and_eq_true, decide_eq_true_eq, beq_iff_eq, decide_eq_decide] at q
  exact ⟨q.1, q.2.1, q.2.2.1, q.2.2.2⟩
/-- the signs of a line -/
def tt_dg (v u : Nat) : Nat := 48 + v / u % 10
def tt_wd (w : Nat) : List Nat := if w < 10 then [tt_dg w 1] else if w < 100 then [tt_dg w 10, tt_dg w 1] else [tt_dg w 100, tt_dg w 10, tt_dg w 1]
def tt_hd (y d m : Nat) : List Nat := [tt_dg y 1, 32, tt_dg d 100, tt_dg d 10, tt_dg d 1, 32, tt_dg (m / 60) 10, tt_dg (m / 60) 1, 58, tt_dg (m % 60) 10, tt_dg (m % 60) 1]
def tt_kd (b : Bool) : List Nat := if b then [32, 72, 73, 71, 72, 32] else [32, 76, 79, 87, 32]
def tt_ht (z : Int) : List Nat := (if z < 0 then [45] else []) ++ tt_wd (z.natAbs / 10000) ++ [46, tt_dg (z.natAbs % 10000) 1000, tt_dg (z.natAbs % 10000) 100, tt_dg (z.natAbs % 10000) 10, tt_dg (z.natAbs % 10000) 1]
def tt_ln (y d m : Nat) (b : Bool) (z : Int) : List Nat := tt_hd y d m ++ tt_kd b ++ tt_ht z
/-- the sum of n heights -/
def tt_sm (h : Nat → Int) (m : Nat) : Nat → Int
  | 0 => 0
  | n + 1 => tt_sm h m n + h (m + n)
theorem tt_sm_in {h : Nat → Int} (hh : ∀ k, -2000000 ≤ h k ∧ h k ≤ 2000000) (m : Nat) : ∀ n : Nat, -2000000 * (n : Int) ≤ tt_sm h m n ∧ tt_sm h m n ≤ 2000000 * (n : Int) := by
  intro n
  induction n with
  | zero => show -2000000 * ((0 : Nat) : Int) ≤ 0 ∧ 0 ≤ 2000000 * ((0 : Nat) : Int); omega
  | succ n ih =>
    have h2 := hh (m + n)
    show -2000000 * ((n + 1 : Nat) : Int) ≤ tt_sm h m n + h (m + n) ∧ tt_sm h m n + h (m + n) ≤ 2000000 * ((n + 1 : Nat) : Int)
    omega
/-- the first minute of a long enough stretch above -/
def tt_ab (h : Nat → Int) (v : Int) (sp : Nat) : Nat → Nat → Nat → Option Nat
  | 0, _, _ => none
  | n + 1, m, r => if v ≤ h m then (if r + 1 = sp then some (m + 1 - sp) else tt_ab h v sp n (m + 1) (r + 1)) else tt_ab h v sp n (m + 1) 0
