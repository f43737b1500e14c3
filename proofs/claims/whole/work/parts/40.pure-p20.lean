theorem jI_and (a b : Nat) : jI a &&& jI b = jI ((a &&& b : Nat) : Int) := by
  apply Int32.toBitVec_inj.mp
  show BitVec.ofInt 32 (a : Int) &&& BitVec.ofInt 32 (b : Int) = BitVec.ofInt 32 ((a &&& b : Nat) : Int)
  simp [BitVec.ofInt_natCast]
def hbit (r : Nat) : Nat := 2 ^ r.log2
theorem hbit_le {r : Nat} (h : 0 < r) : hbit r ≤ r := Nat.log2_self_le (by omega)
theorem hbit_lt (r : Nat) : r < 2 * hbit r := by
  have := @Nat.lt_log2_self r
  rw [Nat.pow_succ] at this
  unfold hbit; omega
theorem hbit_p (r : Nat) : 0 < hbit r := Nat.pow_pos (by omega)
theorem set_x : ∀ r : Nat, r < 256 → ∀ s : Nat, s < 256 → s &&& r = s → r - s = r ^^^ s := by decide +kernel
theorem set_n : ∀ r : Nat, r < 256 → ∀ s : Nat, s < 256 → s &&& r = s → jI r &&& (jI s ^^^ jI (-1)) = jI ((r - s : Nat) : Int) := by decide +kernel
theorem set_t : ∀ j : Nat, j < 8 → ∀ s : Nat, s < 2 ^ (j + 1) → ((s &&& 2 ^ j = 0) ↔ s < 2 ^ j) := by decide +kernel
theorem sh_1 : ∀ v : Nat, v < 9 → (1 : Int32) <<< (jI v &&& 31) = jI ((2 ^ v : Nat) : Int) := by decide +kernel
theorem sh_r : ∀ v : Nat, v < 9 → jI ((2 ^ v : Nat) : Int) >>> ((1 : Int32) &&& 31) = jI ((2 ^ v / 2 : Nat) : Int) := by decide +kernel
theorem sh_t : ∀ j : Nat, j < 8 → ∀ s : Nat, s < 256 → ((jI s >>> (jI j &&& 31)) &&& 1 = 1 ↔ s.testBit j = true) := by decide +kernel
