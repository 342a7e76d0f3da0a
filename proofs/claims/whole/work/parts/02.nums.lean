/-! Ints and longs by their mathematical values. -/
def iI (x : Int) : Int32 := Int32.ofInt x
def lL (x : Int) : Int64 := Int64.ofInt x
theorem iI_mn : Int32.minValue.toInt = -2147483648 := by decide
theorem iI_mx : Int32.maxValue.toInt = 2147483647 := by decide
theorem lL_mn : Int64.minValue.toInt = -9223372036854775808 := by decide
theorem lL_mx : Int64.maxValue.toInt = 9223372036854775807 := by decide
theorem iI_to {x : Int} (h1 : -2147483648 ≤ x) (h2 : x ≤ 2147483647) : (iI x).toInt = x := Int32.toInt_ofInt_of_le (by omega) (by omega)
theorem lL_to {x : Int} (h1 : -9223372036854775808 ≤ x) (h2 : x ≤ 9223372036854775807) : (lL x).toInt = x := Int64.toInt_ofInt_of_le (by omega) (by omega)
theorem iI_of (x : Int32) : iI x.toInt = x := Int32.ofInt_toInt x
theorem lL_of (x : Int64) : lL x.toInt = x := Int64.ofInt_toInt x
theorem iI_ge (x : Int32) : -2147483648 ≤ x.toInt := by have := x.le_toInt; omega
theorem iI_le2 (x : Int32) : x.toInt ≤ 2147483647 := by have := x.toInt_lt; omega
theorem lL_ge (x : Int64) : -9223372036854775808 ≤ x.toInt := by have := x.le_toInt; omega
theorem lL_le2 (x : Int64) : x.toInt ≤ 9223372036854775807 := by have := x.toInt_lt; omega
theorem iI_add (a b : Int) : iI a + iI b = iI (a + b) := (Int32.ofInt_add a b).symm
theorem iI_sub (a b : Int) : iI a - iI b = iI (a - b) := (Int32.ofInt_sub a b).symm
theorem iI_mul (a b : Int) : iI a * iI b = iI (a * b) := (Int32.ofInt_mul a b).symm
theorem iI_neg (a : Int) : -iI a = iI (-a) := (Int32.ofInt_neg a).symm
theorem lL_add (a b : Int) : lL a + lL b = lL (a + b) := (Int64.ofInt_add a b).symm
theorem lL_sub (a b : Int) : lL a - lL b = lL (a - b) := (Int64.ofInt_sub a b).symm
theorem lL_mul (a b : Int) : lL a * lL b = lL (a * b) := (Int64.ofInt_mul a b).symm
theorem lL_neg (a : Int) : -lL a = lL (-a) := (Int64.ofInt_neg a).symm
theorem iI_tdiv {a b : Int} (h1 : -2147483648 ≤ a) (h2 : a ≤ 2147483647) (h3 : -2147483648 ≤ b) (h4 : b ≤ 2147483647) : iI a / iI b = iI (a.tdiv b) :=
  (Int32.ofInt_tdiv (by rw [iI_mn]; exact h1) (by rw [iI_mx]; exact h2) (by rw [iI_mn]; exact h3) (by rw [iI_mx]; exact h4)).symm
theorem lL_tdiv {a b : Int} (h1 : -9223372036854775808 ≤ a) (h2 : a ≤ 9223372036854775807) (h3 : -9223372036854775808 ≤ b) (h4 : b ≤ 9223372036854775807) : lL a / lL b = lL (a.tdiv b) :=
  (Int64.ofInt_tdiv (by rw [lL_mn]; exact h1) (by rw [lL_mx]; exact h2) (by rw [lL_mn]; exact h3) (by rw [lL_mx]; exact h4)).symm
theorem iI_lt {a b : Int} (h1 : -2147483648 ≤ a) (h2 : a ≤ 2147483647) (h3 : -2147483648 ≤ b) (h4 : b ≤ 2147483647) : iI a < iI b ↔ a < b := by
  rw [Int32.lt_iff_toInt_lt, iI_to h1 h2, iI_to h3 h4]
theorem iI_le {a b : Int} (h1 : -2147483648 ≤ a) (h2 : a ≤ 2147483647) (h3 : -2147483648 ≤ b) (h4 : b ≤ 2147483647) : iI a ≤ iI b ↔ a ≤ b := by
  rw [Int32.le_iff_toInt_le, iI_to h1 h2, iI_to h3 h4]
theorem iI_eq {a b : Int} (h1 : -2147483648 ≤ a) (h2 : a ≤ 2147483647) (h3 : -2147483648 ≤ b) (h4 : b ≤ 2147483647) : iI a = iI b ↔ a = b := by
  rw [← Int32.toInt_inj, iI_to h1 h2, iI_to h3 h4]
theorem lL_lt {a b : Int} (h1 : -9223372036854775808 ≤ a) (h2 : a ≤ 9223372036854775807) (h3 : -9223372036854775808 ≤ b) (h4 : b ≤ 9223372036854775807) : lL a < lL b ↔ a < b := by
  rw [Int64.lt_iff_toInt_lt, lL_to h1 h2, lL_to h3 h4]
theorem lL_le {a b : Int} (h1 : -9223372036854775808 ≤ a) (h2 : a ≤ 9223372036854775807) (h3 : -9223372036854775808 ≤ b) (h4 : b ≤ 9223372036854775807) : lL a ≤ lL b ↔ a ≤ b := by
  rw [Int64.le_iff_toInt_le, lL_to h1 h2, lL_to h3 h4]
theorem lL_eq {a b : Int} (h1 : -9223372036854775808 ≤ a) (h2 : a ≤ 9223372036854775807) (h3 : -9223372036854775808 ≤ b) (h4 : b ≤ 9223372036854775807) : lL a = lL b ↔ a = b := by
  rw [← Int64.toInt_inj, lL_to h1 h2, lL_to h3 h4]
theorem iI_0 : (0 : Int32) = iI 0 := by decide
theorem iI_1 : (1 : Int32) = iI 1 := by decide
theorem iI_m1 : (-1 : Int32) = iI (-1) := by decide
theorem lL_0 : (0 : Int64) = lL 0 := by decide
theorem iI_ne0 {b : Int} (h1 : -2147483648 ≤ b) (h2 : b ≤ 2147483647) (h : b ≠ 0) : ¬ iI b = 0 := by
  rw [iI_0, iI_eq h1 h2 (by decide) (by decide)]; exact h
theorem lL_ne0 {b : Int} (h1 : -9223372036854775808 ≤ b) (h2 : b ≤ 9223372036854775807) (h : b ≠ 0) : ¬ lL b = 0 := by
  rw [lL_0, lL_eq h1 h2 (by decide) (by decide)]; exact h
theorem iI_l {a : Int} (h1 : -2147483648 ≤ a) (h2 : a ≤ 2147483647) : (iI a).toInt64 = lL a :=
  Int64.toInt_inj.1 (by rw [Int32.toInt_toInt64, iI_to h1 h2, lL_to (by omega) (by omega)])
theorem lL_i (a : Int) : (lL a).toInt32 = iI a := Int64.toInt32_ofInt
theorem iI_cl {a : Int} (h1 : 0 ≤ a) (h2 : a ≤ 2147483647) : (iI a).toNatClampNeg = a.toNat := by
  show (iI a).toInt.toNat = a.toNat
  rw [iI_to (by omega) h2]
theorem iI_in {a : Int} {n : Nat} (h1 : 0 ≤ a) (h2 : a < n) (hn : (n : Int) ≤ 2147483647) : vp_in (iI a) n := by
  rw [vp_in_iff, iI_to (by omega) (by omega)]; exact ⟨h1, h2⟩
theorem iI_n (n : Nat) : Int32.ofNat n = iI n := by
  exact Int32.ofInt_eq_ofNat.symm
