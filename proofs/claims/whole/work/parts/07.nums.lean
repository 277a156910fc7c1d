/-! Int32 and Int64 by integers -/
def iZ (z : Int) : Int32 := Int32.ofInt z
def lZ (z : Int) : Int64 := Int64.ofInt z
theorem iZ_toInt {z : Int} (h1 : -2147483648 ≤ z) (h2 : z < 2147483648) : (iZ z).toInt = z := Int32.toInt_ofInt_of_le (by omega) (by omega)
theorem lZ_toInt {z : Int} (h1 : -9223372036854775808 ≤ z) (h2 : z < 9223372036854775808) : (lZ z).toInt = z := Int64.toInt_ofInt_of_le (by omega) (by omega)
theorem lZ_add (a b : Int) : lZ a + lZ b = lZ (a + b) := (Int64.ofInt_add a b).symm
theorem lZ_sub (a b : Int) : lZ a - lZ b = lZ (a - b) := (Int64.ofInt_sub a b).symm
theorem lZ_mul (a b : Int) : lZ a * lZ b = lZ (a * b) := (Int64.ofInt_mul a b).symm
theorem lZ_neg (a : Int) : -lZ a = lZ (-a) := (Int64.ofInt_neg a).symm
theorem iZ_add (a b : Int) : iZ a + iZ b = iZ (a + b) := (Int32.ofInt_add a b).symm
theorem iZ_sub (a b : Int) : iZ a - iZ b = iZ (a - b) := (Int32.ofInt_sub a b).symm
theorem iZ_mul (a b : Int) : iZ a * iZ b = iZ (a * b) := (Int32.ofInt_mul a b).symm
theorem iZ_neg (a : Int) : -iZ a = iZ (-a) := (Int32.ofInt_neg a).symm
theorem lN_lZ (n : Nat) : lN n = lZ n := Int64.ofInt_eq_ofNat.symm
theorem nI_iZ (n : Nat) : nI n = iZ n := Int32.ofInt_eq_ofNat.symm
theorem iZ_of (x : Int32) : iZ x.toInt = x := Int32.ofInt_toInt x
theorem lZ_of (x : Int64) : lZ x.toInt = x := Int64.ofInt_toInt x
theorem lZ_i (z : Int) : (lZ z).toInt32 = iZ z := Int64.toInt32_ofInt
theorem iZ_l {z : Int} (h1 : -2147483648 ≤ z) (h2 : z < 2147483648) : (iZ z).toInt64 = lZ z := by
  apply Int64.toInt_inj.mp
  rw [Int32.toInt_toInt64, iZ_toInt h1 h2, lZ_toInt (by omega) (by omega)]
theorem iZ_lt {a b : Int} (h1 : -2147483648 ≤ a) (h2 : a < 2147483648) (h3 : -2147483648 ≤ b) (h4 : b < 2147483648) : iZ a < iZ b ↔ a < b := by
  rw [Int32.lt_iff_toInt_lt, iZ_toInt h1 h2, iZ_toInt h3 h4]
theorem iZ_le {a b : Int} (h1 : -2147483648 ≤ a) (h2 : a < 2147483648) (h3 : -2147483648 ≤ b) (h4 : b < 2147483648) : iZ a ≤ iZ b ↔ a ≤ b := by
  rw [Int32.le_iff_toInt_le, iZ_toInt h1 h2, iZ_toInt h3 h4]
theorem iZ_eq {a b : Int} (h1 : -2147483648 ≤ a) (h2 : a < 2147483648) (h3 : -2147483648 ≤ b) (h4 : b < 2147483648) : iZ a = iZ b ↔ a = b := by
  rw [← Int32.toInt_inj, iZ_toInt h1 h2, iZ_toInt h3 h4]
theorem lZ_lt {a b : Int} (h1 : -9223372036854775808 ≤ a) (h2 : a < 9223372036854775808) (h3 : -9223372036854775808 ≤ b) (h4 : b < 9223372036854775808) : lZ a < lZ b ↔ a < b := by
  rw [Int64.lt_iff_toInt_lt, lZ_toInt h1 h2, lZ_toInt h3 h4]
theorem lZ_shr16 {z : Int} (h1 : -9223372036854775808 ≤ z) (h2 : z < 9223372036854775808) : lZ z >>> ((16 : Int32).toInt64 &&& 63) = lZ (z / 65536) := by
  apply Int64.toInt_inj.mp
  rw [Jvm.Kit.i64_shr (k := 16) _ _ (by decide), lZ_toInt h1 h2, lZ_toInt (by omega) (by omega)]
  omega
theorem lZ_shr30 {z : Int} (h1 : -9223372036854775808 ≤ z) (h2 : z < 9223372036854775808) : lZ z >>> ((30 : Int32).toInt64 &&& 63) = lZ (z / 1073741824) := by
  apply Int64.toInt_inj.mp
  rw [Jvm.Kit.i64_shr (k := 30) _ _ (by decide), lZ_toInt h1 h2, lZ_toInt (by omega) (by omega)]
  omega
theorem lZ_shr46 {z : Int} (h1 : -9223372036854775808 ≤ z) (h2 : z < 9223372036854775808) : lZ z >>> ((46 : Int32).toInt64 &&& 63) = lZ (z / 70368744177664) := by
  apply Int64.toInt_inj.mp
  rw [Jvm.Kit.i64_shr (k := 46) _ _ (by decide), lZ_toInt h1 h2, lZ_toInt (by omega) (by omega)]
  omega
theorem lN_shr16 {n : Nat} (h : n < 9223372036854775808) : lN n >>> ((16 : Int32).toInt64 &&& 63) = lN (n / 65536) := by
  rw [lN_lZ, lN_lZ, lZ_shr16 (by omega) (by omega)]; rfl
theorem lN_shr30 {n : Nat} (h : n < 9223372036854775808) : lN n >>> ((30 : Int32).toInt64 &&& 63) = lN (n / 1073741824) := by
  rw [lN_lZ, lN_lZ, lZ_shr30 (by omega) (by omega)]; rfl
theorem lN_shr46 {n : Nat} (h : n < 9223372036854775808) : lN n >>> ((46 : Int32).toInt64 &&& 63) = lN (n / 70368744177664) := by
  rw [lN_lZ, lN_lZ, lZ_shr46 (by omega) (by omega)]; rfl
theorem lN_bvN (n : Nat) : (lN n).toBitVec = BitVec.ofNat 64 n := rfl
theorem lN_mask30 {n : Nat} (h : n < 9223372036854775808) : lN n &&& 1073741823 = lN (n % 1073741824) := by
  apply Int64.toInt_inj.mp
  rw [Jvm.Kit.i64_mask (k := 30) _ _ (by decide) (by decide), lN_lZ, lZ_toInt (by omega) (by omega), lN_lZ, lZ_toInt (by omega) (by omega)]
  omega
/-- the mask of 48 bits of a sum that may wrap around -/
theorem lN_mask48 (n : Nat) : lN n &&& 281474976710655 = lN (n % 281474976710656) := by
  apply Int64.toInt_inj.mp
  rw [Jvm.Kit.i64_mask (k := 48) _ _ (by decide) (by decide), lN_lZ, lN_lZ, lZ_toInt (z := ((n % 281474976710656 : Nat) : Int)) (by omega) (by omega)]
  show (Int64.ofInt (n : Int)).toInt % 2 ^ 48 = _
  rw [Int64.toInt_ofInt, Int.bmod_def]
  show (if (n : Int) % (18446744073709551616 : Nat) < ((18446744073709551616 : Nat) + 1) / 2 then (n : Int) % (18446744073709551616 : Nat) else (n : Int) % (18446744073709551616 : Nat) - (18446744073709551616 : Nat)) % 281474976710656 = _
  split <;> omega
theorem iZ_range (x : Int32) : -2147483648 ≤ x.toInt ∧ x.toInt < 2147483648 := ⟨x.le_toInt, x.toInt_lt⟩
theorem lZ_range (x : Int64) : -9223372036854775808 ≤ x.toInt ∧ x.toInt < 9223372036854775808 := ⟨x.le_toInt, x.toInt_lt⟩
/-- division that rounds down, as it is reckoned out of one that rounds to zero -/
theorem tt_floor {a b : Int} (hb : 0 < b) : (if a < a.tdiv b * b then a.tdiv b - 1 else a.tdiv b) = a / b := by
  have e1 := Int.mul_tdiv_add_tmod a b
  have e3 := Int.mul_ediv_add_emod a b
  have e4 := Int.emod_nonneg a (show b ≠ 0 by omega)
  have e5 := Int.emod_lt_of_pos a hb
  have e6 : a.tdiv b = a / b + if 0 ≤ a ∨ b ∣ a then 0 else b.sign := Int.tdiv_eq_ediv
  rw [Int.sign_eq_one_of_pos hb] at e6
  have e7 : a / b * b = b * (a / b) := Int.mul_comm _ _
  have e8 : (a / b + 1) * b = b * (a / b) + b := by rw [Int.add_mul, Int.one_mul, e7]
  by_cases h : 0 ≤ a ∨ b ∣ a
  · rw [if_pos h, Int.add_zero] at e6
    rw [e6, e7, if_neg (by omega)]
  · rw [if_neg h] at e6
    have h2 : a % b ≠ 0 := fun z => h (Or.inr (Int.dvd_of_emod_eq_zero z))
    rw [e6, e8, if_pos (by omega)]
    omega
theorem tt_floor2 {a b : Int} (hb : 0 < b) : (if a < 0 ∧ a.tdiv b * b ≠ a then a.tdiv b - 1 else a.tdiv b) = a / b := by
  rw [← tt_floor hb]
  have e1 := Int.mul_tdiv_add_tmod a b
  have e2 : a.tdiv b * b = b * a.tdiv b := Int.mul_comm _ _
  by_cases h : a < 0
  · have e3 : a.tmod b ≤ 0 := by
      have := Int.tmod_nonneg (a := -a) b (by omega)
      rw [Int.neg_tmod] at this
      omega
    by_cases h2 : a.tdiv b * b = a
    · rw [if_neg (fun z => z.2 h2), if_neg (by omega)]
    · rw [if_pos ⟨h, h2⟩, if_pos (by omega)]
  · have e3 : 0 ≤ a.tmod b := Int.tmod_nonneg b (by omega)
    rw [if_neg (fun z => h z.1), if_neg (by omega)]
theorem lZ_div {a b : Int} (h1 : -9223372036854775808 ≤ a) (h2 : a < 9223372036854775808) (hb : 0 < b) (hb2 : b < 9223372036854775808) : lZ a / lZ b = lZ (a.tdiv b) := by
  apply Int64.toInt_inj.mp
  have q : (a.tdiv b).natAbs ≤ a.natAbs := by rw [Int.natAbs_tdiv]; exact Nat.div_le_self _ _
  rw [Jvm.Kit.i64_div (by rw [lZ_toInt h1 h2, lZ_toInt (by omega) hb2]; omega), lZ_toInt h1 h2, lZ_toInt (by omega) hb2]
  by_cases z : a.tdiv b = 9223372036854775808
  · exfalso
    have e6 : a.tdiv b = a / b + if 0 ≤ a ∨ b ∣ a then 0 else b.sign := Int.tdiv_eq_ediv
    rw [Int.sign_eq_one_of_pos hb] at e6
    have e9 : a / b ≤ 0 ∨ 0 < a := by
      by_cases w : 0 < a
      · exact Or.inr w
      · exact Or.inl (Int.ediv_le_of_le_mul hb (by omega))
    rcases e9 with w | w
    · split at e6 <;> omega
    · omega
  · rw [lZ_toInt (by omega) (by omega)]
