-- numbers: an int as the Int that it is
def jI (z : Int) : Int32 := Int32.ofInt z
def jL (z : Int) : Int64 := Int64.ofInt z
theorem jI_toInt {z : Int} (h1 : -2147483648 ≤ z) (h2 : z ≤ 2147483647) : (jI z).toInt = z := Int32.toInt_ofInt_of_le h1 (by omega)
theorem jI_of (a : Int32) : jI a.toInt = a := Int32.ofInt_toInt a
theorem jI_rg (a : Int32) : -2147483648 ≤ a.toInt ∧ a.toInt ≤ 2147483647 := ⟨Int32.minValue_le_toInt a, by have := Int32.toInt_lt a; omega⟩
theorem jI_add (a b : Int) : jI a + jI b = jI (a + b) := (Int32.ofInt_add a b).symm
theorem jI_sub (a b : Int) : jI a - jI b = jI (a - b) := (Int32.ofInt_sub a b).symm
theorem jI_mul (a b : Int) : jI a * jI b = jI (a * b) := (Int32.ofInt_mul a b).symm
theorem jI_neg (a : Int) : - jI a = jI (-a) := (Int32.ofInt_neg a).symm
theorem jI_lit (n : Nat) : (OfNat.ofNat n : Int32) = jI (n : Int) := by
  show Int32.ofNat n = Int32.ofInt n
  rw [Int32.ofInt_eq_ofNat]
theorem jI_lt {a b : Int} (h1 : -2147483648 ≤ a) (h2 : a ≤ 2147483647) (h3 : -2147483648 ≤ b) (h4 : b ≤ 2147483647) : (jI a < jI b) ↔ a < b := by
  rw [Int32.lt_iff_toInt_lt, jI_toInt h1 h2, jI_toInt h3 h4]
theorem jI_le {a b : Int} (h1 : -2147483648 ≤ a) (h2 : a ≤ 2147483647) (h3 : -2147483648 ≤ b) (h4 : b ≤ 2147483647) : (jI a ≤ jI b) ↔ a ≤ b := by
  rw [Int32.le_iff_toInt_le, jI_toInt h1 h2, jI_toInt h3 h4]
theorem jI_eq {a b : Int} (h1 : -2147483648 ≤ a) (h2 : a ≤ 2147483647) (h3 : -2147483648 ≤ b) (h4 : b ≤ 2147483647) : (jI a = jI b) ↔ a = b := by
  rw [← Int32.toInt_inj, jI_toInt h1 h2, jI_toInt h3 h4]
theorem jI_div {a b : Int} (h1 : -2147483648 < a) (h2 : a ≤ 2147483647) (h3 : -2147483648 ≤ b) (h4 : b ≤ 2147483647) : jI a / jI b = jI (a.tdiv b) := by
  rw [← Int32.toInt_inj, Int32.toInt_div_of_ne_left _ _ (by
    intro h
    have := congrArg Int32.toInt h
    rw [jI_toInt (by omega) h2] at this
    have e : Int32.minValue.toInt = -2147483648 := by decide
    omega), jI_toInt (by omega) h2, jI_toInt h3 h4, jI_toInt]
  · have := Int.natAbs_tdiv_le_natAbs a b
    omega
  · have := Int.natAbs_tdiv_le_natAbs a b
    omega
theorem jI_rem {a b : Int} (h1 : -2147483648 < a) (h2 : a ≤ 2147483647) (h3 : -2147483648 ≤ b) (h4 : b ≤ 2147483647) : jI a - jI a / jI b * jI b = jI (a.tmod b) := by
  rw [jI_div h1 h2 h3 h4, jI_mul, jI_sub]
  congr 1
  have := Int.tmod_add_mul_tdiv a b
  rw [Int.mul_comm] at this
  omega
theorem jI_clamp {z : Int} (h1 : -2147483648 ≤ z) (h2 : z ≤ 2147483647) : (jI z).toNatClampNeg = z.toNat := by
  show (jI z).toInt.toNat = z.toNat
  rw [jI_toInt h1 h2]
theorem jI_nI (n : Nat) : nI n = jI n := by
  unfold nI jI
  rw [Int32.ofInt_eq_ofNat]
theorem jL_toInt {z : Int} (h1 : -9223372036854775808 ≤ z) (h2 : z ≤ 9223372036854775807) : (jL z).toInt = z := Int64.toInt_ofInt_of_le h1 (by omega)
theorem jL_add (a b : Int) : jL a + jL b = jL (a + b) := (Int64.ofInt_add a b).symm
theorem jL_sub (a b : Int) : jL a - jL b = jL (a - b) := (Int64.ofInt_sub a b).symm
theorem jL_mul (a b : Int) : jL a * jL b = jL (a * b) := (Int64.ofInt_mul a b).symm
theorem jL_neg (a : Int) : - jL a = jL (-a) := (Int64.ofInt_neg a).symm
theorem jL_lit (n : Nat) : (OfNat.ofNat n : Int64) = jL (n : Int) := by
  show Int64.ofNat n = Int64.ofInt n
  rw [Int64.ofInt_eq_ofNat]
theorem jL_of (a : Int64) : jL a.toInt = a := Int64.ofInt_toInt a
theorem jL_lt {a b : Int} (h1 : -9223372036854775808 ≤ a) (h2 : a ≤ 9223372036854775807) (h3 : -9223372036854775808 ≤ b) (h4 : b ≤ 9223372036854775807) : (jL a < jL b) ↔ a < b := by
  rw [Int64.lt_iff_toInt_lt, jL_toInt h1 h2, jL_toInt h3 h4]
theorem jL_le {a b : Int} (h1 : -9223372036854775808 ≤ a) (h2 : a ≤ 9223372036854775807) (h3 : -9223372036854775808 ≤ b) (h4 : b ≤ 9223372036854775807) : (jL a ≤ jL b) ↔ a ≤ b := by
  rw [Int64.le_iff_toInt_le, jL_toInt h1 h2, jL_toInt h3 h4]
theorem jL_eq {a b : Int} (h1 : -9223372036854775808 ≤ a) (h2 : a ≤ 9223372036854775807) (h3 : -9223372036854775808 ≤ b) (h4 : b ≤ 9223372036854775807) : (jL a = jL b) ↔ a = b := by
  rw [← Int64.toInt_inj, jL_toInt h1 h2, jL_toInt h3 h4]
theorem jL_div {a b : Int} (h1 : -9223372036854775808 < a) (h2 : a ≤ 9223372036854775807) (h3 : -9223372036854775808 ≤ b) (h4 : b ≤ 9223372036854775807) : jL a / jL b = jL (a.tdiv b) := by
  rw [← Int64.toInt_inj, Int64.toInt_div_of_ne_left _ _ (by
    intro h
    have := congrArg Int64.toInt h
    rw [jL_toInt (by omega) h2] at this
    have e : Int64.minValue.toInt = -9223372036854775808 := by decide
    omega), jL_toInt (by omega) h2, jL_toInt h3 h4, jL_toInt]
  · have := Int.natAbs_tdiv_le_natAbs a b
    omega
  · have := Int.natAbs_tdiv_le_natAbs a b
    omega
theorem jL_rem {a b : Int} (h1 : -9223372036854775808 < a) (h2 : a ≤ 9223372036854775807) (h3 : -9223372036854775808 ≤ b) (h4 : b ≤ 9223372036854775807) : jL a - jL a / jL b * jL b = jL (a.tmod b) := by
  rw [jL_div h1 h2 h3 h4, jL_mul, jL_sub]
  congr 1
  have := Int.tmod_add_mul_tdiv a b
  rw [Int.mul_comm] at this
  omega
theorem jI_toL {z : Int} (h1 : -2147483648 ≤ z) (h2 : z ≤ 2147483647) : (jI z).toInt64 = jL z := by
  rw [← Int64.toInt_inj, Int32.toInt_toInt64, jI_toInt h1 h2, jL_toInt (by omega) (by omega)]
theorem jL_toI (z : Int) : (jL z).toInt32 = jI z := by
  unfold jL jI
  exact Int64.toInt32_ofInt
theorem jI_ix {z : Int} {n : Nat} (h0 : 0 ≤ z) (h1 : z < n) (h2 : n < 2147483648) : m_ix (jI z) n = some z.toNat := by
  unfold m_ix
  have e : (jI z).toNatClampNeg = z.toNat := jI_clamp (by omega) (by omega)
  rw [if_neg, e]
  rintro (h | h)
  · have : (jI z < jI 0) := h
    rw [jI_lt (by omega) (by omega) (by omega) (by omega)] at this
    omega
  · rw [e] at h
    omega
