def jI (z : Int) : Int32 := Int32.ofInt z
def jL (z : Int) : Int64 := Int64.ofInt z
theorem jI_t {z : Int} (h1 : -2147483648 ≤ z) (h2 : z < 2147483648) : (jI z).toInt = z := Int32.toInt_ofInt_of_le (by omega) (by omega)
theorem jL_t {z : Int} (h1 : -9223372036854775808 ≤ z) (h2 : z < 9223372036854775808) : (jL z).toInt = z := Int64.toInt_ofInt_of_le (by omega) (by omega)
theorem jI_add (a b : Int) : jI a + jI b = jI (a + b) := (Int32.ofInt_add a b).symm
theorem jI_sub (a b : Int) : jI a - jI b = jI (a - b) := (Int32.ofInt_sub a b).symm
theorem jI_mul (a b : Int) : jI a * jI b = jI (a * b) := (Int32.ofInt_mul a b).symm
theorem jI_neg (a : Int) : -jI a = jI (-a) := (Int32.ofInt_neg (a := a)).symm
theorem jL_add (a b : Int) : jL a + jL b = jL (a + b) := (Int64.ofInt_add a b).symm
theorem jL_sub (a b : Int) : jL a - jL b = jL (a - b) := (Int64.ofInt_sub a b).symm
theorem jL_mul (a b : Int) : jL a * jL b = jL (a * b) := (Int64.ofInt_mul a b).symm
theorem jL_neg (a : Int) : -jL a = jL (-a) := (Int64.ofInt_neg (a := a)).symm
theorem jI_lit (n : Nat) : (OfNat.ofNat n : Int32) = jI (OfNat.ofNat n) := rfl
theorem jL_lit (n : Nat) : (OfNat.ofNat n : Int64) = jL (OfNat.ofNat n) := rfl
theorem jI_n (n : Nat) : Int32.ofNat n = jI n := rfl
theorem jI_lt {a b : Int} (h1 : -2147483648 ≤ a) (h2 : a < 2147483648) (h3 : -2147483648 ≤ b) (h4 : b < 2147483648) : (jI a < jI b) = (a < b) := by
  rw [Int32.lt_iff_toInt_lt, jI_t h1 h2, jI_t h3 h4]
theorem jI_le {a b : Int} (h1 : -2147483648 ≤ a) (h2 : a < 2147483648) (h3 : -2147483648 ≤ b) (h4 : b < 2147483648) : (jI a ≤ jI b) = (a ≤ b) := by
  rw [Int32.le_iff_toInt_le, jI_t h1 h2, jI_t h3 h4]
theorem jI_eq {a b : Int} (h1 : -2147483648 ≤ a) (h2 : a < 2147483648) (h3 : -2147483648 ≤ b) (h4 : b < 2147483648) : (jI a = jI b) = (a = b) := by
  rw [← Int32.toInt_inj, jI_t h1 h2, jI_t h3 h4]
theorem jL_lt {a b : Int} (h1 : -9223372036854775808 ≤ a) (h2 : a < 9223372036854775808) (h3 : -9223372036854775808 ≤ b) (h4 : b < 9223372036854775808) : (jL a < jL b) = (a < b) := by
  rw [Int64.lt_iff_toInt_lt, jL_t h1 h2, jL_t h3 h4]
theorem jL_le {a b : Int} (h1 : -9223372036854775808 ≤ a) (h2 : a < 9223372036854775808) (h3 : -9223372036854775808 ≤ b) (h4 : b < 9223372036854775808) : (jL a ≤ jL b) = (a ≤ b) := by
  rw [Int64.le_iff_toInt_le, jL_t h1 h2, jL_t h3 h4]
theorem jL_eq {a b : Int} (h1 : -9223372036854775808 ≤ a) (h2 : a < 9223372036854775808) (h3 : -9223372036854775808 ≤ b) (h4 : b < 9223372036854775808) : (jL a = jL b) = (a = b) := by
  rw [← Int64.toInt_inj, jL_t h1 h2, jL_t h3 h4]
theorem jI_c {z : Int} (h1 : -2147483648 ≤ z) (h2 : z < 2147483648) : (jI z).toNatClampNeg = z.toNat := by
  show (jI z).toInt.toNat = _; rw [jI_t h1 h2]
theorem jI_64 {z : Int} (h1 : -2147483648 ≤ z) (h2 : z < 2147483648) : (jI z).toInt64 = jL z := by
  rw [← Int64.toInt_inj, Int32.toInt_toInt64, jI_t h1 h2, jL_t (by omega) (by omega)]
theorem jL_32 (z : Int) : (jL z).toInt32 = jI z := Int64.toInt32_ofInt
theorem jI_div {a b : Int} (h1 : 0 ≤ a) (h2 : a < 2147483648) (h3 : 0 < b) (h4 : b < 2147483648) : jI a / jI b = jI (a / b) := by
  have hd : 0 ≤ a / b := Int.ediv_nonneg h1 (by omega)
  have hd2 : a / b ≤ a := Int.ediv_le_self b h1
  have hne : jI a ≠ Int32.minValue := fun h => by
    have h5 := congrArg Int32.toInt h
    rw [jI_t (by omega) h2] at h5
    have h6 : Int32.minValue.toInt = -2147483648 := by decide
    omega
  rw [← Int32.toInt_inj, Int32.toInt_div_of_ne_left _ _ hne, jI_t (by omega) h2, jI_t (by omega) h4, jI_t (by omega) (by omega), Int.tdiv_eq_ediv_of_nonneg h1]
theorem jL_div {a b : Int} (h1 : 0 ≤ a) (h2 : a < 9223372036854775808) (h3 : 0 < b) (h4 : b < 9223372036854775808) : jL a / jL b = jL (a / b) := by
  have hd : 0 ≤ a / b := Int.ediv_nonneg h1 (by omega)
  have hd2 : a / b ≤ a := Int.ediv_le_self b h1
  have hne : jL a ≠ Int64.minValue := fun h => by
    have h5 := congrArg Int64.toInt h
    rw [jL_t (by omega) h2] at h5
    have h6 : Int64.minValue.toInt = -9223372036854775808 := by decide
    omega
  rw [← Int64.toInt_inj, Int64.toInt_div_of_ne_left _ _ hne, jL_t (by omega) h2, jL_t (by omega) h4, jL_t (by omega) (by omega), Int.tdiv_eq_ediv_of_nonneg h1]
theorem jx {z : Int} {n : Nat} (h1 : 0 ≤ z) (h2 : z < n) (h3 : n ≤ 2147483648) : ix (jI z) n = true := by
  have e := jI_c (z := z) (by omega) (by omega)
  have e0 : ¬ jI z < 0 := by
    rw [show (0 : Int32) = jI 0 from rfl, jI_lt (by omega) (by omega) (by omega) (by omega)]; omega
  unfold ix
  rw [e]
  refine decide_eq_true ?_
  rintro (h | h)
  · exact e0 h
  · omega
theorem jI_rem {a b : Int} : a - a / b * b = a % b := by rw [Int.emod_def, Int.mul_comm]
theorem bnd {α β : Type} (x : α) (f : α → Option β) : (some x).bind f = f x := rfl
theorem fu_k (k : Nat) (h : k ≤ 1000000000000000000) : ∃ n, fu = n + k := ⟨1000000000000000000 - k, by unfold fu; omega⟩
