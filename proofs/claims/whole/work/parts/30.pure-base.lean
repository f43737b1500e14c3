/-! pure: how states are read, indices, numbers -/
theorem sI_s {S : MS} {k : Nat} {v : Int32} : (sI S k v).1 k = v := by simp [sI, va_up]
theorem sI_n {S : MS} {k j : Nat} {v : Int32} (h : j ≠ k) : (sI S k v).1 j = S.1 j := by simp [sI, va_up, h]
theorem sI_a {S : MS} {k : Nat} {v : Int32} : (sI S k v).2 = S.2 := rfl
theorem sA_i {S : MS} {k : Nat} {f : Nat → Int32} : (sA S k f).1 = S.1 := rfl
theorem sA_l {S : MS} {k : Nat} {f : Nat → Int32} : (sA S k f).2.2 = S.2.2 := rfl
theorem sA_s {S : MS} {k : Nat} {f : Nat → Int32} : (sA S k f).2.1 k = f := by simp [sA, va_up]
theorem sA_n {S : MS} {k j : Nat} {f : Nat → Int32} (h : j ≠ k) : (sA S k f).2.1 j = S.2.1 j := by simp [sA, va_up, h]
theorem sL_i {S : MS} {k : Nat} {f : Nat → Int64} : (sL S k f).1 = S.1 := rfl
theorem sL_a {S : MS} {k : Nat} {f : Nat → Int64} : (sL S k f).2.1 = S.2.1 := rfl
theorem sL_s {S : MS} {k : Nat} {f : Nat → Int64} : (sL S k f).2.2 k = f := by simp [sL, va_up]
theorem sL_n {S : MS} {k j : Nat} {f : Nat → Int64} (h : j ≠ k) : (sL S k f).2.2 j = S.2.2 j := by simp [sL, va_up, h]
theorem ix_nI {k n : Nat} (h : k < n) (hn : n < 2 ^ 31) : ix (nI k) n = true := decide_eq_true (p := ¬ (nI k < 0 ∨ n ≤ (nI k).toNatClampNeg)) (vp_in_nI h hn)
theorem ix_k {i : Int32} {n : Nat} (h : ix i n = true) (hn : n < 2 ^ 31) : ∃ k : Nat, k < n ∧ i = nI k := vp_in_of (ix_in h) hn
