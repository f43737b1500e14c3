def bsum (f : Nat → Nat) (s : Nat) : Nat → Nat
  | 0 => 0
  | n + 1 => bsum f s n + (if s.testBit n then f n else 0)
theorem bsum_b {f : Nat → Nat} {m : Nat} (s : Nat) : ∀ n, (∀ k, k < n → f k ≤ m) → bsum f s n ≤ n * m := by
  intro n
  induction n with
  | zero => intro _; simp [bsum]
  | succ n ih =>
    intro h
    have h1 := ih (fun k hk => h k (by omega))
    have h2 := h n (by omega)
    simp only [bsum]
    rw [Nat.succ_mul]
    split <;> omega
theorem bsum_add {f : Nat → Nat} {k t : Nat} (ht : t < 2 ^ k) : ∀ n, bsum f (2 ^ k + t) n = bsum f t n + (if k < n then f k else 0) := by
  intro n
  induction n with
  | zero => simp [bsum]
  | succ n ih =>
    simp only [bsum]
    rw [ih]
    by_cases c1 : n < k
    · rw [Nat.testBit_two_pow_add_gt c1]
      simp [show ¬ k < n by omega, show ¬ k < n + 1 by omega]
    · by_cases c2 : n = k
      · subst c2
        rw [Nat.testBit_two_pow_add_eq, Nat.testBit_lt_two_pow ht]
        simp
      · have h1 : (2 ^ k + t).testBit n = false := Nat.testBit_lt_two_pow (by
          have : 2 ^ (k + 1) ≤ 2 ^ n := Nat.pow_le_pow_right (by omega) (by omega)
          rw [Nat.pow_succ] at this; omega)
        have h2 : t.testBit n = false := Nat.testBit_lt_two_pow (by
          have : 2 ^ k ≤ 2 ^ n := Nat.pow_le_pow_right (by omega) (by omega)
          omega)
        rw [h1, h2]
        simp [show k < n by omega, show k < n + 1 by omega]
def same (k : Nat) (lw l2 : MS) : Prop := l2.1 = lw.1 ∧ ∀ j, j ≠ k → l2.2.1 j = lw.2.1 j
theorem same.tr {k : Nat} {a b c : MS} (h : same k a b) (g : same k b c) : same k a c := ⟨g.1.trans h.1, fun j hj => (g.2 j hj).trans (h.2 j hj)⟩
theorem same.rf (k : Nat) (a : MS) : same k a a := ⟨rfl, fun _ _ => rfl⟩
theorem same.sA (k : Nat) (a : MS) (f : Nat → Int32) : same k a (sA a k f) := ⟨rfl, fun j hj => by simp (disch := omega) only [jI_lit, jL_lit, jI_n, jI_add, jI_sub, jI_mul, jI_neg, jL_add, jL_sub, jL_mul, jL_neg, jI_lt, jI_le, jI_eq, jL_lt, jL_le, jL_eq, jI_c, jI_64, jL_32, jI_div, jL_div, jx, bnd, if_true, if_false, if_pos, if_neg, Int.toNat_natCast, Int.reduceToNat, Int.add_zero, Int.zero_add, Int.reduceAdd, Int.reduceSub, Int.reduceMul, Int.reduceNeg, Int.reduceLT, Int.reduceLE, jI_rem, sI_1, sI_2, sA_1, sA_2, sA_3, sL_1, sL_2, sL_3, upd_a, updL_a, vaup_a, Nat.reduceEqDiff, Ab_sz, Ab_tx, Ab_ns, Ab_sn, Ab_sx, Ab_ru, Ab_nl, Ab_lsh, Ab_ld, Ab_lm, Ab_lg, Ab_pd, Ab_px, Ab_py, Ab_pz, Ab_kn, Ab_kl, Ab_km]⟩
section LW
variable {c : Nat} {f : Nat → Nat} {pl : MS}
theorem c_sumJ (hc : c ≤ 8) (hf : ∀ k, k < c → f k ≤ 120000) (y2 y3 y4 : Int32) {k : Nat} (hk : k < c) : ∀ (n t : Nat) (lw : MS), t ≤ 2 ^ k → 2 ^ k - t < n → (∀ s, s < 2 ^ k + t → lw.2.1 0 s = jI (bsum f s c)) →
    ∃ v l2, l_Lw_sumSets_41 n y2 y3 y4 (jI ((2 ^ k : Nat) : Int)) (jI (f k)) (jI ((2 ^ k + t : Nat) : Int)) lw pl = some (v, l2) ∧ same 0 lw l2 ∧ (∀ s, s < 2 ^ (k + 1) → l2.2.1 0 s = jI (bsum f s c)) := by
  intro n
  have hp : 2 ^ (k + 1) = 2 * 2 ^ k := by rw [Nat.pow_succ]; omega
  have hp2 : 2 ^ k ≤ 2 ^ 7 := Nat.pow_le_pow_right (by omega) (by omega)
  have hp1 : 1 ≤ 2 ^ k := Nat.one_le_two_pow
  induction n with
  | zero => intro t lw _ h; omega
  | succ n ih =>
    intro t lw ht hn hs
    rw [l_Lw_sumSets_41]
    by_cases e : t = 2 ^ k
    · rw [if_pos (by simp (disch := omega) only [jI_lit, jL_lit, jI_n, jI_add, jI_sub, jI_mul, jI_neg, jL_add, jL_sub, jL_mul, jL_neg, jI_lt, jI_le, jI_eq, jL_lt, jL_le, jL_eq, jI_c, jI_64, jL_32, jI_div, jL_div, jx, bnd, if_true, if_false, if_pos, if_neg, Int.toNat_natCast, Int.reduceToNat, Int.add_zero, Int.zero_add, Int.reduceAdd, Int.reduceSub, Int.reduceMul, Int.reduceNeg, Int.reduceLT, Int.reduceLE, jI_rem, sI_1, sI_2, sA_1, sA_2, sA_3, sL_1, sL_2, sL_3, upd_a, updL_a, vaup_a, Nat.reduceEqDiff, Ab_sz, Ab_tx, Ab_ns, Ab_sn, Ab_sx, Ab_ru, Ab_nl, Ab_lsh, Ab_ld, Ab_lm, Ab_lg, Ab_pd, Ab_px, Ab_py, Ab_pz, Ab_kn, Ab_kl, Ab_km]; omega)]
      exact ⟨_, lw, rfl, same.rf 0 lw, fun s h => hs s (by omega)⟩
    · have hb := bsum_b t c hf
      have hb2 : c * 120000 ≤ 8 * 120000 := Nat.mul_le_mul_right _ hc
      have hfk := hf k hk
      have ha := bsum_add (f := f) (show t < 2 ^ k by omega) c
      rw [if_pos hk] at ha
      have h1 : ∀ s, s < 2 ^ k + (t + 1) → (sA lw 0 (upd (lw.2.1 0) (2 ^ k + t) (jI (bsum f (2 ^ k + t) c)))).2.1 0 s = jI (bsum f s c) := fun s hh => by
        by_cases e2 : s = 2 ^ k + t
        · subst e2; simp (disch := omega) only [jI_lit, jL_lit, jI_n, jI_add, jI_sub, jI_mul, jI_neg, jL_add, jL_sub, jL_mul, jL_neg, jI_lt, jI_le, jI_eq, jL_lt, jL_le, jL_eq, jI_c, jI_64, jL_32, jI_div, jL_div, jx, bnd, if_true, if_false, if_pos, if_neg, Int.toNat_natCast, Int.reduceToNat, Int.add_zero, Int.zero_add, Int.reduceAdd, Int.reduceSub, Int.reduceMul, Int.reduceNeg, Int.reduceLT, Int.reduceLE, jI_rem, sI_1, sI_2, sA_1, sA_2, sA_3, sL_1, sL_2, sL_3, upd_a, updL_a, vaup_a, Nat.reduceEqDiff, Ab_sz, Ab_tx, Ab_ns, Ab_sn, Ab_sx, Ab_ru, Ab_nl, Ab_lsh, Ab_ld, Ab_lm, Ab_lg, Ab_pd, Ab_px, Ab_py, Ab_pz, Ab_kn, Ab_kl, Ab_km]
        · simp (disch := omega) only [jI_lit, jL_lit, jI_n, jI_add, jI_sub, jI_mul, jI_neg, jL_add, jL_sub, jL_mul, jL_neg, jI_lt, jI_le, jI_eq, jL_lt, jL_le, jL_eq, jI_c, jI_64, jL_32, jI_div, jL_div, jx, bnd, if_true, if_false, if_pos, if_neg, Int.toNat_natCast, Int.reduceToNat, Int.add_zero, Int.zero_add, Int.reduceAdd, Int.reduceSub, Int.reduceMul, Int.reduceNeg, Int.reduceLT, Int.reduceLE, jI_rem, sI_1, sI_2, sA_1, sA_2, sA_3, sL_1, sL_2, sL_3, upd_a, updL_a, vaup_a, Nat.reduceEqDiff, Ab_sz, Ab_tx, Ab_ns, Ab_sn, Ab_sx, Ab_ru, Ab_nl, Ab_lsh, Ab_ld, Ab_lm, Ab_lg, Ab_pd, Ab_px, Ab_py, Ab_pz, Ab_kn, Ab_kl, Ab_km]; exact hs s (by omega)
      obtain ⟨v, l2, e2, g1, g2⟩ := ih (t + 1) _ (by omega) (by omega) h1
      refine ⟨v, l2, ?_, (same.sA 0 lw _).tr g1, g2⟩
      rw [← e2]
      rw [if_neg (by simp (disch := omega) only [jI_lit, jL_lit, jI_n, jI_add, jI_sub, jI_mul, jI_neg, jL_add, jL_sub, jL_mul, jL_neg, jI_lt, jI_le, jI_eq, jL_lt, jL_le, jL_eq, jI_c, jI_64, jL_32, jI_div, jL_div, jx, bnd, if_true, if_false, if_pos, if_neg, Int.toNat_natCast, Int.reduceToNat, Int.add_zero, Int.zero_add, Int.reduceAdd, Int.reduceSub, Int.reduceMul, Int.reduceNeg, Int.reduceLT, Int.reduceLE, jI_rem, sI_1, sI_2, sA_1, sA_2, sA_3, sL_1, sL_2, sL_3, upd_a, updL_a, vaup_a, Nat.reduceEqDiff, Ab_sz, Ab_tx, Ab_ns, Ab_sn, Ab_sx, Ab_ru, Ab_nl, Ab_lsh, Ab_ld, Ab_lm, Ab_lg, Ab_pd, Ab_px, Ab_py, Ab_pz, Ab_kn, Ab_kl, Ab_km]; omega), show jI ((2 ^ k + t : Nat) : Int) - jI ((2 ^ k : Nat) : Int) = jI (t : Int) from by rw [jI_sub]; congr 1; omega, jx (by omega) (by omega) (by omega), jx (by omega) (by omega) (by omega)]
      simp only [if_true, bnd]
      rw [show (jI (t : Int)).toNatClampNeg = t from by rw [jI_c (by omega) (by omega)]; omega, show (jI ((2 ^ k + t : Nat) : Int)).toNatClampNeg = 2 ^ k + t from by rw [jI_c (by omega) (by omega)]; omega, hs t (by omega), show jI ((bsum f t c : Nat) : Int) + jI (f k) = jI ((bsum f (2 ^ k + t) c : Nat) : Int) from by rw [jI_add, ha]; rfl, show jI ((2 ^ k + t : Nat) : Int) + 1 = jI ((2 ^ k + (t + 1) : Nat) : Int) from jI_add _ 1]
theorem c_sumK (hc : c ≤ 8) (hf : ∀ k, k < c → f k ≤ 120000) {from_ : Nat} (hfr : from_ + c ≤ 60) (hpl : ∀ k, k < c → pl.2.1 1 (from_ + c - 1 - k) = jI (f k)) : ∀ (n k : Nat) (lw : MS), k ≤ c → c - k < n → (∀ s, s < 2 ^ k → lw.2.1 0 s = jI (bsum f s c)) →
    ∃ v l2, l_Lw_sumSets_10 n (jI from_) (jI c) (jI k) lw pl = some (v, l2) ∧ same 0 lw l2 ∧ (∀ s, s < 2 ^ c → l2.2.1 0 s = jI (bsum f s c)) := by
  intro n
  induction n with
  | zero => intro k lw _ h; omega
  | succ n ih =>
    intro k lw hk hn hs
    rw [l_Lw_sumSets_10]
    by_cases e : k = c
    · subst e
      rw [if_pos (Int32.le_refl _)]
      exact ⟨_, lw, rfl, same.rf 0 lw, hs⟩
    · have hp8 : 2 ^ k ≤ 2 ^ 8 := Nat.pow_le_pow_right (by omega) (by omega)
      obtain ⟨v, l2, e1, g1, g2⟩ := c_sumJ (pl := pl) hc hf (jI from_) (jI c) (jI k) (show k < c by omega) fu 0 lw (Nat.zero_le _) (by unfold fu; omega) hs
      obtain ⟨v3, l3, e3, g3, g4⟩ := ih (k + 1) l2 (by omega) (by omega) g2
      refine ⟨v3, l3, ?_, g1.tr g3, g4⟩
      rw [if_neg (by simp (disch := omega) only [jI_lit, jL_lit, jI_n, jI_add, jI_sub, jI_mul, jI_neg, jL_add, jL_sub, jL_mul, jL_neg, jI_lt, jI_le, jI_eq, jL_lt, jL_le, jL_eq, jI_c, jI_64, jL_32, jI_div, jL_div, jx, bnd, if_true, if_false, if_pos, if_neg, Int.toNat_natCast, Int.reduceToNat, Int.add_zero, Int.zero_add, Int.reduceAdd, Int.reduceSub, Int.reduceMul, Int.reduceNeg, Int.reduceLT, Int.reduceLE, jI_rem, sI_1, sI_2, sA_1, sA_2, sA_3, sL_1, sL_2, sL_3, upd_a, updL_a, vaup_a, Nat.reduceEqDiff, Ab_sz, Ab_tx, Ab_ns, Ab_sn, Ab_sx, Ab_ru, Ab_nl, Ab_lsh, Ab_ld, Ab_lm, Ab_lg, Ab_pd, Ab_px, Ab_py, Ab_pz, Ab_kn, Ab_kl, Ab_km]; omega), sh_1 k (by omega)]
      simp only [bnd]
      have ei : jI (from_ : Int) + jI c - 1 - jI k = jI ((from_ + c - 1 - k : Nat) : Int) := by
        rw [show (1 : Int32) = jI 1 from rfl, jI_add, jI_sub, jI_sub]; congr 1; omega
      rw [ei, jx (by omega) (by omega) (by omega), show (jI ((from_ + c - 1 - k : Nat) : Int)).toNatClampNeg = from_ + c - 1 - k from by rw [jI_c (by omega) (by omega)]; omega, hpl k (by omega)]
      simp only [if_true]
      rw [Nat.add_zero] at e1
      rw [e1, bnd, show jI (k : Int) + 1 = jI ((k + 1 : Nat) : Int) from jI_add _ 1]
      exact e3
theorem c_sumSets (hc : c ≤ 8) (hf : ∀ k, k < c → f k ≤ 120000) {from_ : Nat} (hfr : from_ + c ≤ 60) (hpl : ∀ k, k < c → pl.2.1 1 (from_ + c - 1 - k) = jI (f k)) (lw : MS) : ∃ l2, f_Lw_sumSets lw pl (jI from_) (jI c) = some ((), l2) ∧ same 0 lw l2 ∧ (∀ s, s < 2 ^ c → l2.2.1 0 s = jI (bsum f s c)) := by
  have h0 : ∀ s, s < 2 ^ 0 → (sA lw 0 (upd (lw.2.1 0) 0 (jI 0))).2.1 0 s = jI (bsum f s c) := fun s hs => by
    have : s = 0 := by simpa using hs
    subst this
    have : ∀ n, bsum f 0 n = 0 := fun n => by
      induction n with
      | zero => rfl
      | succ n ih => simp [bsum, ih]
    rw [this]
    simp (disch := omega) only [jI_lit, jL_lit, jI_n, jI_add, jI_sub, jI_mul, jI_neg, jL_add, jL_sub, jL_mul, jL_neg, jI_lt, jI_le, jI_eq, jL_lt, jL_le, jL_eq, jI_c, jI_64, jL_32, jI_div, jL_div, jx, bnd, if_true, if_false, if_pos, if_neg, Int.toNat_natCast, Int.reduceToNat, Int.add_zero, Int.zero_add, Int.reduceAdd, Int.reduceSub, Int.reduceMul, Int.reduceNeg, Int.reduceLT, Int.reduceLE, jI_rem, sI_1, sI_2, sA_1, sA_2, sA_3, sL_1, sL_2, sL_3, upd_a, updL_a, vaup_a, Nat.reduceEqDiff, Ab_sz, Ab_tx, Ab_ns, Ab_sn, Ab_sx, Ab_ru, Ab_nl, Ab_lsh, Ab_ld, Ab_lm, Ab_lg, Ab_pd, Ab_px, Ab_py, Ab_pz, Ab_kn, Ab_kl, Ab_km]; rfl
  obtain ⟨v, l2, e, g1, g2⟩ := c_sumK hc hf hfr hpl fu 0 _ (by omega) (by unfold fu; omega) h0
  refine ⟨l2, ?_, (same.sA 0 lw _).tr g1, g2⟩
  have e' : l_Lw_sumSets_10 fu (jI from_) (jI c) 0 (sA lw 0 (upd (lw.2.1 0) 0 (jI 0))) pl = some (v, l2) := e
  unfold f_Lw_sumSets
  rw [show (0 : Int32) = jI 0 from rfl, jx (by omega) (by omega) (by omega), show (jI 0).toNatClampNeg = 0 from rfl]
  simp only [if_true, bnd]
  have e2 : l_Lw_sumSets_10 fu (jI from_) (jI c) (jI 0) (sA lw 0 (upd (lw.2.1 0) 0 (jI 0))) pl = some (v, l2) := e
  rw [e2]; rfl
end LW
def cbF (sz left : Nat → Nat) (s : Nat) : Nat → Nat
  | 0 => 268435456
  | k + 1 => if left k ≠ 0 ∧ s ≤ sz k then min (cbF sz left s k) (16 * sz k + 1) else cbF sz left s k
theorem cbF_b (sz left : Nat → Nat) (s : Nat) : ∀ n, cbF sz left s n ≤ 268435456 := by
  intro n
  induction n with
  | zero => exact Nat.le_refl _
  | succ n ih => simp only [cbF]; split <;> omega
theorem cbF_le {sz left : Nat → Nat} {s k : Nat} (h1 : left k ≠ 0) (h2 : s ≤ sz k) : ∀ n, k < n → cbF sz left s n ≤ 16 * sz k + 1 := by
  intro n
  induction n with
  | zero => intro h; omega
  | succ n ih =>
    intro h
    simp only [cbF]
    by_cases e : k = n
    · subst e; rw [if_pos ⟨h1, h2⟩]; omega
    · have := ih (by omega)
      split <;> omega
def RZ (kn : Nat) (sz left : Nat → Nat) (lw : MS) : Prop := (lw.1 0 = jI kn) ∧ (∀ k, k < kn → lw.2.1 2 k = jI (sz k)) ∧ (∀ k, k < kn → lw.2.1 3 k = jI (left k))
theorem RZ.k0 {kn : Nat} {sz left : Nat → Nat} {lw : MS} (h9 : RZ kn sz left lw) : lw.1 0 = jI kn := h9.1
theorem RZ.zi {kn : Nat} {sz left : Nat → Nat} {lw : MS} (h9 : RZ kn sz left lw) : ∀ k, k < kn → lw.2.1 2 k = jI (sz k) := h9.2.1
theorem RZ.le {kn : Nat} {sz left : Nat → Nat} {lw : MS} (h9 : RZ kn sz left lw) : ∀ k, k < kn → lw.2.1 3 k = jI (left k) := h9.2.2
theorem RZ.mk {kn : Nat} {sz left : Nat → Nat} {lw : MS} (u_k0 : lw.1 0 = jI kn) (u_zi : ∀ k, k < kn → lw.2.1 2 k = jI (sz k)) (u_le : ∀ k, k < kn → lw.2.1 3 k = jI (left k)) : RZ kn sz left lw := ⟨u_k0, u_zi, u_le⟩
section LW
variable {kn c : Nat} {sz S left : Nat → Nat}
theorem c_cheapL {lw : MS} (h : RZ kn sz left lw) (hk : kn ≤ 3) (hz : ∀ k, k < kn → 1 ≤ sz k ∧ sz k ≤ 30000) (hl : ∀ k, k < kn → left k ≤ 20) {s : Nat} (hs : s ≤ 1000000) : ∀ (n k : Nat), k ≤ kn → kn - k < n →
    ∃ v, l_Lw_costOfCheapestBar_5 n (jI s) (jI (cbF sz left s k)) (jI k) lw = some (jI (cbF sz left s kn), v) := by
  intro n
  induction n with
  | zero => intro k _ h; omega
  | succ n ih =>
    intro k hkk hn
    have hb := cbF_b sz left s k
    rw [l_Lw_costOfCheapestBar_5, h.k0]
    by_cases e : k = kn
    · subst e; rw [if_pos (Int32.le_refl _)]; exact ⟨_, rfl⟩
    · have hk' : k < kn := by omega
      have hzk := hz k hk'
      have hlk := hl k hk'
      obtain ⟨v, e1⟩ := ih (k + 1) (by omega) (by omega)
      simp only [cbF] at e1
      refine ⟨v, ?_⟩
      rw [if_neg (by simp (disch := omega) only [jI_lit, jL_lit, jI_n, jI_add, jI_sub, jI_mul, jI_neg, jL_add, jL_sub, jL_mul, jL_neg, jI_lt, jI_le, jI_eq, jL_lt, jL_le, jL_eq, jI_c, jI_64, jL_32, jI_div, jL_div, jx, bnd, if_true, if_false, if_pos, if_neg, Int.toNat_natCast, Int.reduceToNat, Int.add_zero, Int.zero_add, Int.reduceAdd, Int.reduceSub, Int.reduceMul, Int.reduceNeg, Int.reduceLT, Int.reduceLE, jI_rem, sI_1, sI_2, sA_1, sA_2, sA_3, sL_1, sL_2, sL_3, upd_a, updL_a, vaup_a, Nat.reduceEqDiff, Ab_sz, Ab_tx, Ab_ns, Ab_sn, Ab_sx, Ab_ru, Ab_nl, Ab_lsh, Ab_ld, Ab_lm, Ab_lg, Ab_pd, Ab_px, Ab_py, Ab_pz, Ab_kn, Ab_kl, Ab_km]; omega), jx (by omega) (by omega) (by omega), show (jI k).toNatClampNeg = k from by rw [jI_c (by omega) (by omega)]; omega, h.le k hk', h.zi k hk', show jI (k : Int) + 1 = jI ((k + 1 : Nat) : Int) from jI_add _ 1]
      simp only [if_true]
      by_cases c1 : left k = 0
      · rw [if_neg (by omega)] at e1
        rw [if_pos (by simp (disch := omega) only [jI_lit, jL_lit, jI_n, jI_add, jI_sub, jI_mul, jI_neg, jL_add, jL_sub, jL_mul, jL_neg, jI_lt, jI_le, jI_eq, jL_lt, jL_le, jL_eq, jI_c, jI_64, jL_32, jI_div, jL_div, jx, bnd, if_true, if_false, if_pos, if_neg, Int.toNat_natCast, Int.reduceToNat, Int.add_zero, Int.zero_add, Int.reduceAdd, Int.reduceSub, Int.reduceMul, Int.reduceNeg, Int.reduceLT, Int.reduceLE, jI_rem, sI_1, sI_2, sA_1, sA_2, sA_3, sL_1, sL_2, sL_3, upd_a, updL_a, vaup_a, Nat.reduceEqDiff, Ab_sz, Ab_tx, Ab_ns, Ab_sn, Ab_sx, Ab_ru, Ab_nl, Ab_lsh, Ab_ld, Ab_lm, Ab_lg, Ab_pd, Ab_px, Ab_py, Ab_pz, Ab_kn, Ab_kl, Ab_km]; omega)]; exact e1
      · rw [if_neg (by simp (disch := omega) only [jI_lit, jL_lit, jI_n, jI_add, jI_sub, jI_mul, jI_neg, jL_add, jL_sub, jL_mul, jL_neg, jI_lt, jI_le, jI_eq, jL_lt, jL_le, jL_eq, jI_c, jI_64, jL_32, jI_div, jL_div, jx, bnd, if_true, if_false, if_pos, if_neg, Int.toNat_natCast, Int.reduceToNat, Int.add_zero, Int.zero_add, Int.reduceAdd, Int.reduceSub, Int.reduceMul, Int.reduceNeg, Int.reduceLT, Int.reduceLE, jI_rem, sI_1, sI_2, sA_1, sA_2, sA_3, sL_1, sL_2, sL_3, upd_a, updL_a, vaup_a, Nat.reduceEqDiff, Ab_sz, Ab_tx, Ab_ns, Ab_sn, Ab_sx, Ab_ru, Ab_nl, Ab_lsh, Ab_ld, Ab_lm, Ab_lg, Ab_pd, Ab_px, Ab_py, Ab_pz, Ab_kn, Ab_kl, Ab_km]; omega)]
        by_cases c2 : s ≤ sz k
        · rw [if_pos ⟨c1, c2⟩] at e1
          have ec : f_Lw_costOfBar lw (jI k) = some (jI ((16 * sz k + 1 : Nat) : Int)) := by
            unfold f_Lw_costOfBar
            rw [jx (by omega) (by omega) (by omega), show (jI k).toNatClampNeg = k from by rw [jI_c (by omega) (by omega)]; omega, h.zi k hk']
            simp (disch := omega) only [jI_lit, jL_lit, jI_n, jI_add, jI_sub, jI_mul, jI_neg, jL_add, jL_sub, jL_mul, jL_neg, jI_lt, jI_le, jI_eq, jL_lt, jL_le, jL_eq, jI_c, jI_64, jL_32, jI_div, jL_div, jx, bnd, if_true, if_false, if_pos, if_neg, Int.toNat_natCast, Int.reduceToNat, Int.add_zero, Int.zero_add, Int.reduceAdd, Int.reduceSub, Int.reduceMul, Int.reduceNeg, Int.reduceLT, Int.reduceLE, jI_rem, sI_1, sI_2, sA_1, sA_2, sA_3, sL_1, sL_2, sL_3, upd_a, updL_a, vaup_a, Nat.reduceEqDiff, Ab_sz, Ab_tx, Ab_ns, Ab_sn, Ab_sx, Ab_ru, Ab_nl, Ab_lsh, Ab_ld, Ab_lm, Ab_lg, Ab_pd, Ab_px, Ab_py, Ab_pz, Ab_kn, Ab_kl, Ab_km]
            congr 2; omega
          rw [if_neg (by simp (disch := omega) only [jI_lit, jL_lit, jI_n, jI_add, jI_sub, jI_mul, jI_neg, jL_add, jL_sub, jL_mul, jL_neg, jI_lt, jI_le, jI_eq, jL_lt, jL_le, jL_eq, jI_c, jI_64, jL_32, jI_div, jL_div, jx, bnd, if_true, if_false, if_pos, if_neg, Int.toNat_natCast, Int.reduceToNat, Int.add_zero, Int.zero_add, Int.reduceAdd, Int.reduceSub, Int.reduceMul, Int.reduceNeg, Int.reduceLT, Int.reduceLE, jI_rem, sI_1, sI_2, sA_1, sA_2, sA_3, sL_1, sL_2, sL_3, upd_a, updL_a, vaup_a, Nat.reduceEqDiff, Ab_sz, Ab_tx, Ab_ns, Ab_sn, Ab_sx, Ab_ru, Ab_nl, Ab_lsh, Ab_ld, Ab_lm, Ab_lg, Ab_pd, Ab_px, Ab_py, Ab_pz, Ab_kn, Ab_kl, Ab_km]; omega), ec]
          simp only [bnd]
          rw [← e1]
          by_cases c3 : 16 * sz k + 1 < cbF sz left s k
          · rw [if_pos (by simp (disch := omega) only [jI_lit, jL_lit, jI_n, jI_add, jI_sub, jI_mul, jI_neg, jL_add, jL_sub, jL_mul, jL_neg, jI_lt, jI_le, jI_eq, jL_lt, jL_le, jL_eq, jI_c, jI_64, jL_32, jI_div, jL_div, jx, bnd, if_true, if_false, if_pos, if_neg, Int.toNat_natCast, Int.reduceToNat, Int.add_zero, Int.zero_add, Int.reduceAdd, Int.reduceSub, Int.reduceMul, Int.reduceNeg, Int.reduceLT, Int.reduceLE, jI_rem, sI_1, sI_2, sA_1, sA_2, sA_3, sL_1, sL_2, sL_3, upd_a, updL_a, vaup_a, Nat.reduceEqDiff, Ab_sz, Ab_tx, Ab_ns, Ab_sn, Ab_sx, Ab_ru, Ab_nl, Ab_lsh, Ab_ld, Ab_lm, Ab_lg, Ab_pd, Ab_px, Ab_py, Ab_pz, Ab_kn, Ab_kl, Ab_km]; omega), Nat.min_eq_right (by omega)]
          · rw [if_neg (by simp (disch := omega) only [jI_lit, jL_lit, jI_n, jI_add, jI_sub, jI_mul, jI_neg, jL_add, jL_sub, jL_mul, jL_neg, jI_lt, jI_le, jI_eq, jL_lt, jL_le, jL_eq, jI_c, jI_64, jL_32, jI_div, jL_div, jx, bnd, if_true, if_false, if_pos, if_neg, Int.toNat_natCast, Int.reduceToNat, Int.add_zero, Int.zero_add, Int.reduceAdd, Int.reduceSub, Int.reduceMul, Int.reduceNeg, Int.reduceLT, Int.reduceLE, jI_rem, sI_1, sI_2, sA_1, sA_2, sA_3, sL_1, sL_2, sL_3, upd_a, updL_a, vaup_a, Nat.reduceEqDiff, Ab_sz, Ab_tx, Ab_ns, Ab_sn, Ab_sx, Ab_ru, Ab_nl, Ab_lsh, Ab_ld, Ab_lm, Ab_lg, Ab_pd, Ab_px, Ab_py, Ab_pz, Ab_kn, Ab_kl, Ab_km]; omega), Nat.min_eq_left (by omega)]
        · rw [if_neg (by omega)] at e1
          rw [if_pos (by simp (disch := omega) only [jI_lit, jL_lit, jI_n, jI_add, jI_sub, jI_mul, jI_neg, jL_add, jL_sub, jL_mul, jL_neg, jI_lt, jI_le, jI_eq, jL_lt, jL_le, jL_eq, jI_c, jI_64, jL_32, jI_div, jL_div, jx, bnd, if_true, if_false, if_pos, if_neg, Int.toNat_natCast, Int.reduceToNat, Int.add_zero, Int.zero_add, Int.reduceAdd, Int.reduceSub, Int.reduceMul, Int.reduceNeg, Int.reduceLT, Int.reduceLE, jI_rem, sI_1, sI_2, sA_1, sA_2, sA_3, sL_1, sL_2, sL_3, upd_a, updL_a, vaup_a, Nat.reduceEqDiff, Ab_sz, Ab_tx, Ab_ns, Ab_sn, Ab_sx, Ab_ru, Ab_nl, Ab_lsh, Ab_ld, Ab_lm, Ab_lg, Ab_pd, Ab_px, Ab_py, Ab_pz, Ab_kn, Ab_kl, Ab_km]; omega)]; exact e1
theorem c_cheap {lw : MS} (h : RZ kn sz left lw) (hk : kn ≤ 3) (hz : ∀ k, k < kn → 1 ≤ sz k ∧ sz k ≤ 30000) (hl : ∀ k, k < kn → left k ≤ 20) {s : Nat} (hs : s ≤ 1000000) : f_Lw_costOfCheapestBar lw (jI s) = some (jI (cbF sz left s kn)) := by
  obtain ⟨v, e⟩ := c_cheapL h hk hz hl hs fu 0 (by omega) (by unfold fu; omega)
  have e' : l_Lw_costOfCheapestBar_5 fu (jI s) 268435456 0 lw = some (jI (cbF sz left s kn), v) := e
  unfold f_Lw_costOfCheapestBar
  rw [e']; rfl
theorem c_floorR {lw : MS} (h : RZ kn sz left lw) (hk : kn ≤ 3) (hz : ∀ k, k < kn → 1 ≤ sz k ∧ sz k ≤ 30000) (hl : ∀ k, k < kn → left k ≤ 20) {fl : Nat → Nat} {set : Nat} (h0 : 0 < set) (h1 : set < 256) (hS : ∀ s, s ≤ set → lw.2.1 0 s = jI (S s) ∧ S s ≤ 1000000) (hF : ∀ s, s < set → lw.2.1 1 s = jI (fl s) ∧ fl s ≤ 268435456) (y1 : Int32) :
    ∀ (n m row : Nat) (x : Nat), row < n → row < m → row ≤ set → x ≤ 268435456 → ∃ (x2 : Nat) (v : Int32), l_Lw_findFloors_28 n y1 (jI set) (jI (hbit set)) (jI x) (jI row) lw = some (jI x2, v) ∧ x2 ≤ x ∧ (∀ r ∈ rowsF set (hbit set) m row, x2 ≤ cbF sz left (S r) kn + fl (set - r)) := by
  intro n
  have hp := hbit_p set
  induction n with
  | zero => intro m row x h; omega
  | succ n ih =>
    intro m row x hn hm hr hx
    obtain ⟨m, rfl⟩ : ∃ y, m = y + 1 := ⟨m - 1, by omega⟩
    simp only [rowsF]
    rw [l_Lw_findFloors_28]
    have hlt := hbit_lt set
    by_cases c1 : row < hbit set
    · rw [if_pos c1, if_pos (by
        have := hbit_le h0
        simp (disch := omega) only [jI_lit, jL_lit, jI_n, jI_add, jI_sub, jI_mul, jI_neg, jL_add, jL_sub, jL_mul, jL_neg, jI_lt, jI_le, jI_eq, jL_lt, jL_le, jL_eq, jI_c, jI_64, jL_32, jI_div, jL_div, jx, bnd, if_true, if_false, if_pos, if_neg, Int.toNat_natCast, Int.reduceToNat, Int.add_zero, Int.zero_add, Int.reduceAdd, Int.reduceSub, Int.reduceMul, Int.reduceNeg, Int.reduceLT, Int.reduceLE, jI_rem, sI_1, sI_2, sA_1, sA_2, sA_3, sL_1, sL_2, sL_3, upd_a, updL_a, vaup_a, Nat.reduceEqDiff, Ab_sz, Ab_tx, Ab_ns, Ab_sn, Ab_sx, Ab_ru, Ab_nl, Ab_lsh, Ab_ld, Ab_lm, Ab_lg, Ab_pd, Ab_px, Ab_py, Ab_pz, Ab_kn, Ab_kl, Ab_km]; omega)]
      exact ⟨x, _, rfl, Nat.le_refl _, fun r hr => by simp at hr⟩
    · have hh := hbit_le h0
      have hs1 := hS row hr
      have hs2 := hF (set - row) (by omega)
      have hcb := cbF_b sz left (S row) kn
      have hnx : (row - 1) &&& set ≤ row - 1 := Nat.and_le_left
      have enx : (jI row - 1) &&& jI set = jI (((row - 1) &&& set : Nat) : Int) := by
        rw [← jI_and, show (1 : Int32) = jI 1 from rfl, jI_sub, show (row : Int) - 1 = ((row - 1 : Nat) : Int) from by omega]
      obtain ⟨x2, v, e1, g1, g2⟩ := ih m ((row - 1) &&& set) (min x (cbF sz left (S row) kn + fl (set - row))) (by omega) (by omega) (by omega) (by omega)
      refine ⟨x2, v, ?_, by omega, fun r hr => ?_⟩
      · rw [if_neg (by simp (disch := omega) only [jI_lit, jL_lit, jI_n, jI_add, jI_sub, jI_mul, jI_neg, jL_add, jL_sub, jL_mul, jL_neg, jI_lt, jI_le, jI_eq, jL_lt, jL_le, jL_eq, jI_c, jI_64, jL_32, jI_div, jL_div, jx, bnd, if_true, if_false, if_pos, if_neg, Int.toNat_natCast, Int.reduceToNat, Int.add_zero, Int.zero_add, Int.reduceAdd, Int.reduceSub, Int.reduceMul, Int.reduceNeg, Int.reduceLT, Int.reduceLE, jI_rem, sI_1, sI_2, sA_1, sA_2, sA_3, sL_1, sL_2, sL_3, upd_a, updL_a, vaup_a, Nat.reduceEqDiff, Ab_sz, Ab_tx, Ab_ns, Ab_sn, Ab_sx, Ab_ru, Ab_nl, Ab_lsh, Ab_ld, Ab_lm, Ab_lg, Ab_pd, Ab_px, Ab_py, Ab_pz, Ab_kn, Ab_kl, Ab_km]; omega), jx (by omega) (by omega) (by omega), show (jI row).toNatClampNeg = row from by rw [jI_c (by omega) (by omega)]; omega, hs1.1, c_cheap h hk hz hl hs1.2, enx, show jI set - jI row = jI ((set - row : Nat) : Int) from by rw [jI_sub]; congr 1; omega, jx (by omega) (by omega) (by omega), show (jI ((set - row : Nat) : Int)).toNatClampNeg = set - row from by rw [jI_c (by omega) (by omega)]; omega, hs2.1]
        simp only [if_true, bnd]
        rw [show jI ((cbF sz left (S row) kn : Nat) : Int) + jI ((fl (set - row) : Nat) : Int) = jI ((cbF sz left (S row) kn + fl (set - row) : Nat) : Int) from jI_add _ _, ← e1]
        by_cases c3 : cbF sz left (S row) kn + fl (set - row) < x
        · rw [if_pos (by simp (disch := omega) only [jI_lit, jL_lit, jI_n, jI_add, jI_sub, jI_mul, jI_neg, jL_add, jL_sub, jL_mul, jL_neg, jI_lt, jI_le, jI_eq, jL_lt, jL_le, jL_eq, jI_c, jI_64, jL_32, jI_div, jL_div, jx, bnd, if_true, if_false, if_pos, if_neg, Int.toNat_natCast, Int.reduceToNat, Int.add_zero, Int.zero_add, Int.reduceAdd, Int.reduceSub, Int.reduceMul, Int.reduceNeg, Int.reduceLT, Int.reduceLE, jI_rem, sI_1, sI_2, sA_1, sA_2, sA_3, sL_1, sL_2, sL_3, upd_a, updL_a, vaup_a, Nat.reduceEqDiff, Ab_sz, Ab_tx, Ab_ns, Ab_sn, Ab_sx, Ab_ru, Ab_nl, Ab_lsh, Ab_ld, Ab_lm, Ab_lg, Ab_pd, Ab_px, Ab_py, Ab_pz, Ab_kn, Ab_kl, Ab_km]; omega), Nat.min_eq_right (by omega)]
        · rw [if_neg (by simp (disch := omega) only [jI_lit, jL_lit, jI_n, jI_add, jI_sub, jI_mul, jI_neg, jL_add, jL_sub, jL_mul, jL_neg, jI_lt, jI_le, jI_eq, jL_lt, jL_le, jL_eq, jI_c, jI_64, jL_32, jI_div, jL_div, jx, bnd, if_true, if_false, if_pos, if_neg, Int.toNat_natCast, Int.reduceToNat, Int.add_zero, Int.zero_add, Int.reduceAdd, Int.reduceSub, Int.reduceMul, Int.reduceNeg, Int.reduceLT, Int.reduceLE, jI_rem, sI_1, sI_2, sA_1, sA_2, sA_3, sL_1, sL_2, sL_3, upd_a, updL_a, vaup_a, Nat.reduceEqDiff, Ab_sz, Ab_tx, Ab_ns, Ab_sn, Ab_sx, Ab_ru, Ab_nl, Ab_lsh, Ab_ld, Ab_lm, Ab_lg, Ab_pd, Ab_px, Ab_py, Ab_pz, Ab_kn, Ab_kl, Ab_km]; omega), Nat.min_eq_left (by omega)]
      · rw [if_neg c1] at hr
        rcases List.mem_cons.mp hr with hr | hr
        · subst hr; omega
        · exact g2 r hr
theorem c_floorL (hc : c ≤ 8) (hk : kn ≤ 3) (hz : ∀ k, k < kn → 1 ≤ sz k ∧ sz k ≤ 30000) (hl : ∀ k, k < kn → left k ≤ 20) (hSb : ∀ s, s < 2 ^ c → S s ≤ 1000000) : ∀ (n m : Nat) (lw : MS) (fl : Nat → Nat), 0 < m → m ≤ 2 ^ c → 2 ^ c - m < n → RZ kn sz left lw → (∀ s, s < 2 ^ c → lw.2.1 0 s = jI (S s)) → fl 0 = 0 →
    (∀ s, s < m → lw.2.1 1 s = jI (fl s) ∧ fl s ≤ 268435456) → (∀ s, 0 < s → s < m → ∀ r ∈ rowsOf s, fl s ≤ cbF sz left (S r) kn + fl (s - r)) →
    ∃ (v : Int32) (l2 : MS) (fl2 : Nat → Nat), l_Lw_findFloors_9 n (jI c) (jI m) lw = some (v, l2) ∧ same 1 lw l2 ∧ fl2 0 = 0 ∧ (∀ s, s < 2 ^ c → l2.2.1 1 s = jI (fl2 s) ∧ fl2 s ≤ 268435456) ∧ (∀ s, 0 < s → s < 2 ^ c → ∀ r ∈ rowsOf s, fl2 s ≤ cbF sz left (S r) kn + fl2 (s - r)) := by
  intro n
  have hc8 : (2 : Nat) ^ c ≤ 2 ^ 8 := Nat.pow_le_pow_right (by omega) hc
  induction n with
  | zero => intro m lw fl _ _ h; omega
  | succ n ih =>
    intro m lw fl hm0 hm hn rz hS f0 hF hR
    rw [l_Lw_findFloors_9, show (1 : Int32) <<< (jI c &&& 31) = jI ((2 ^ c : Nat) : Int) from sh_1 c (by omega)]
    by_cases e : m = 2 ^ c
    · rw [if_pos (by rw [e]; exact Int32.le_refl _)]
      subst e
      exact ⟨_, lw, fl, rfl, same.rf 1 lw, f0, hF, hR⟩
    · obtain ⟨x2, v, e1, g1, g2⟩ := c_floorR (fl := fl) rz hk hz hl hm0 (by omega) (fun s hs => ⟨hS s (by omega), hSb s (by omega)⟩) hF (jI c) fu 256 m 268435456 (by unfold fu; omega) (by omega) (Nat.le_refl _) (Nat.le_refl _)
      have hfl : ∀ s, s ≠ m → va_up fl m x2 s = fl s := fun s hs => by rw [vaup_a, if_neg hs]
      have hfm : va_up fl m x2 m = x2 := by rw [vaup_a, if_pos rfl]
      obtain ⟨v3, l3, fl3, e3, g3, g4⟩ := ih (m + 1) (sA lw 1 (upd (lw.2.1 1) m (jI x2))) (va_up fl m x2) (by omega) (by omega) (by omega) ⟨rz.k0, by intro k hk; simp (disch := omega) only [jI_lit, jL_lit, jI_n, jI_add, jI_sub, jI_mul, jI_neg, jL_add, jL_sub, jL_mul, jL_neg, jI_lt, jI_le, jI_eq, jL_lt, jL_le, jL_eq, jI_c, jI_64, jL_32, jI_div, jL_div, jx, bnd, if_true, if_false, if_pos, if_neg, Int.toNat_natCast, Int.reduceToNat, Int.add_zero, Int.zero_add, Int.reduceAdd, Int.reduceSub, Int.reduceMul, Int.reduceNeg, Int.reduceLT, Int.reduceLE, jI_rem, sI_1, sI_2, sA_1, sA_2, sA_3, sL_1, sL_2, sL_3, upd_a, updL_a, vaup_a, Nat.reduceEqDiff, Ab_sz, Ab_tx, Ab_ns, Ab_sn, Ab_sx, Ab_ru, Ab_nl, Ab_lsh, Ab_ld, Ab_lm, Ab_lg, Ab_pd, Ab_px, Ab_py, Ab_pz, Ab_kn, Ab_kl, Ab_km]; exact rz.zi k hk, by intro k hk; simp (disch := omega) only [jI_lit, jL_lit, jI_n, jI_add, jI_sub, jI_mul, jI_neg, jL_add, jL_sub, jL_mul, jL_neg, jI_lt, jI_le, jI_eq, jL_lt, jL_le, jL_eq, jI_c, jI_64, jL_32, jI_div, jL_div, jx, bnd, if_true, if_false, if_pos, if_neg, Int.toNat_natCast, Int.reduceToNat, Int.add_zero, Int.zero_add, Int.reduceAdd, Int.reduceSub, Int.reduceMul, Int.reduceNeg, Int.reduceLT, Int.reduceLE, jI_rem, sI_1, sI_2, sA_1, sA_2, sA_3, sL_1, sL_2, sL_3, upd_a, updL_a, vaup_a, Nat.reduceEqDiff, Ab_sz, Ab_tx, Ab_ns, Ab_sn, Ab_sx, Ab_ru, Ab_nl, Ab_lsh, Ab_ld, Ab_lm, Ab_lg, Ab_pd, Ab_px, Ab_py, Ab_pz, Ab_kn, Ab_kl, Ab_km]; exact rz.le k hk⟩ (fun s hs => by simp (disch := omega) only [jI_lit, jL_lit, jI_n, jI_add, jI_sub, jI_mul, jI_neg, jL_add, jL_sub, jL_mul, jL_neg, jI_lt, jI_le, jI_eq, jL_lt, jL_le, jL_eq, jI_c, jI_64, jL_32, jI_div, jL_div, jx, bnd, if_true, if_false, if_pos, if_neg, Int.toNat_natCast, Int.reduceToNat, Int.add_zero, Int.zero_add, Int.reduceAdd, Int.reduceSub, Int.reduceMul, Int.reduceNeg, Int.reduceLT, Int.reduceLE, jI_rem, sI_1, sI_2, sA_1, sA_2, sA_3, sL_1, sL_2, sL_3, upd_a, updL_a, vaup_a, Nat.reduceEqDiff, Ab_sz, Ab_tx, Ab_ns, Ab_sn, Ab_sx, Ab_ru, Ab_nl, Ab_lsh, Ab_ld, Ab_lm, Ab_lg, Ab_pd, Ab_px, Ab_py, Ab_pz, Ab_kn, Ab_kl, Ab_km]; exact hS s hs) (by rw [hfl 0 (by omega)]; exact f0)
        (fun s hs => by
          by_cases e5 : s = m
          · subst e5; rw [hfm]; simp (disch := omega) only [jI_lit, jL_lit, jI_n, jI_add, jI_sub, jI_mul, jI_neg, jL_add, jL_sub, jL_mul, jL_neg, jI_lt, jI_le, jI_eq, jL_lt, jL_le, jL_eq, jI_c, jI_64, jL_32, jI_div, jL_div, jx, bnd, if_true, if_false, if_pos, if_neg, Int.toNat_natCast, Int.reduceToNat, Int.add_zero, Int.zero_add, Int.reduceAdd, Int.reduceSub, Int.reduceMul, Int.reduceNeg, Int.reduceLT, Int.reduceLE, jI_rem, sI_1, sI_2, sA_1, sA_2, sA_3, sL_1, sL_2, sL_3, upd_a, updL_a, vaup_a, Nat.reduceEqDiff, Ab_sz, Ab_tx, Ab_ns, Ab_sn, Ab_sx, Ab_ru, Ab_nl, Ab_lsh, Ab_ld, Ab_lm, Ab_lg, Ab_pd, Ab_px, Ab_py, Ab_pz, Ab_kn, Ab_kl, Ab_km]; exact ⟨trivial, by omega⟩
          · rw [hfl s e5]; simp (disch := omega) only [jI_lit, jL_lit, jI_n, jI_add, jI_sub, jI_mul, jI_neg, jL_add, jL_sub, jL_mul, jL_neg, jI_lt, jI_le, jI_eq, jL_lt, jL_le, jL_eq, jI_c, jI_64, jL_32, jI_div, jL_div, jx, bnd, if_true, if_false, if_pos, if_neg, Int.toNat_natCast, Int.reduceToNat, Int.add_zero, Int.zero_add, Int.reduceAdd, Int.reduceSub, Int.reduceMul, Int.reduceNeg, Int.reduceLT, Int.reduceLE, jI_rem, sI_1, sI_2, sA_1, sA_2, sA_3, sL_1, sL_2, sL_3, upd_a, updL_a, vaup_a, Nat.reduceEqDiff, Ab_sz, Ab_tx, Ab_ns, Ab_sn, Ab_sx, Ab_ru, Ab_nl, Ab_lsh, Ab_ld, Ab_lm, Ab_lg, Ab_pd, Ab_px, Ab_py, Ab_pz, Ab_kn, Ab_kl, Ab_km]; exact hF s (by omega))
        (fun s hs0 hs r hr => by
          have h5 := rows_mem hr
          have h6 := hbit_p s
          rw [hfl (s - r) (by omega)]
          by_cases e5 : s = m
          · subst e5; rw [hfm]; exact g2 r hr
          · rw [hfl s e5]; exact hR s hs0 (by omega) r hr)
      refine ⟨v3, l3, fl3, ?_, (same.sA 1 lw _).tr g3, g4⟩
      rw [if_neg (by simp (disch := omega) only [jI_lit, jL_lit, jI_n, jI_add, jI_sub, jI_mul, jI_neg, jL_add, jL_sub, jL_mul, jL_neg, jI_lt, jI_le, jI_eq, jL_lt, jL_le, jL_eq, jI_c, jI_64, jL_32, jI_div, jL_div, jx, bnd, if_true, if_false, if_pos, if_neg, Int.toNat_natCast, Int.reduceToNat, Int.add_zero, Int.zero_add, Int.reduceAdd, Int.reduceSub, Int.reduceMul, Int.reduceNeg, Int.reduceLT, Int.reduceLE, jI_rem, sI_1, sI_2, sA_1, sA_2, sA_3, sL_1, sL_2, sL_3, upd_a, updL_a, vaup_a, Nat.reduceEqDiff, Ab_sz, Ab_tx, Ab_ns, Ab_sn, Ab_sx, Ab_ru, Ab_nl, Ab_lsh, Ab_ld, Ab_lm, Ab_lg, Ab_pd, Ab_px, Ab_py, Ab_pz, Ab_kn, Ab_kl, Ab_km]; omega), c_hbit hm0 (by omega), bnd]
      have e1' : l_Lw_findFloors_28 fu (jI c) (jI m) (jI (hbit m)) 268435456 (jI m) lw = some (jI x2, v) := e1
      rw [e1', jx (by omega) (by omega) (by omega)]
      simp only [if_true, bnd]
      rw [show (jI m).toNatClampNeg = m from by rw [jI_c (by omega) (by omega)]; omega, show jI (m : Int) + 1 = jI ((m + 1 : Nat) : Int) from jI_add _ 1]
      exact e3
theorem c_findFloors (hc : c ≤ 8) (hk : kn ≤ 3) (hz : ∀ k, k < kn → 1 ≤ sz k ∧ sz k ≤ 30000) (hl : ∀ k, k < kn → left k ≤ 20) (hSb : ∀ s, s < 2 ^ c → S s ≤ 1000000) (lw : MS) (rz : RZ kn sz left lw) (hS : ∀ s, s < 2 ^ c → lw.2.1 0 s = jI (S s)) :
    ∃ (l2 : MS) (fl : Nat → Nat), f_Lw_findFloors lw (jI c) = some ((), l2) ∧ same 1 lw l2 ∧ (∀ s, s < 2 ^ c → l2.2.1 1 s = jI (fl s)) ∧ HW kn c sz S fl left := by
  have hc8 : (2 : Nat) ^ c ≤ 2 ^ 8 := Nat.pow_le_pow_right (by omega) hc
  have hc1 : 1 ≤ 2 ^ c := Nat.one_le_two_pow
  obtain ⟨v, l2, fl, e, g1, g2, g3, g4⟩ := c_floorL hc hk hz hl hSb fu 1 (sA lw 1 (upd (lw.2.1 1) 0 (jI 0))) (fun _ => 0) (by omega) (by omega) (by unfold fu; omega) ⟨rz.k0, by intro k hk; simp (disch := omega) only [jI_lit, jL_lit, jI_n, jI_add, jI_sub, jI_mul, jI_neg, jL_add, jL_sub, jL_mul, jL_neg, jI_lt, jI_le, jI_eq, jL_lt, jL_le, jL_eq, jI_c, jI_64, jL_32, jI_div, jL_div, jx, bnd, if_true, if_false, if_pos, if_neg, Int.toNat_natCast, Int.reduceToNat, Int.add_zero, Int.zero_add, Int.reduceAdd, Int.reduceSub, Int.reduceMul, Int.reduceNeg, Int.reduceLT, Int.reduceLE, jI_rem, sI_1, sI_2, sA_1, sA_2, sA_3, sL_1, sL_2, sL_3, upd_a, updL_a, vaup_a, Nat.reduceEqDiff, Ab_sz, Ab_tx, Ab_ns, Ab_sn, Ab_sx, Ab_ru, Ab_nl, Ab_lsh, Ab_ld, Ab_lm, Ab_lg, Ab_pd, Ab_px, Ab_py, Ab_pz, Ab_kn, Ab_kl, Ab_km]; exact rz.zi k hk, by intro k hk; simp (disch := omega) only [jI_lit, jL_lit, jI_n, jI_add, jI_sub, jI_mul, jI_neg, jL_add, jL_sub, jL_mul, jL_neg, jI_lt, jI_le, jI_eq, jL_lt, jL_le, jL_eq, jI_c, jI_64, jL_32, jI_div, jL_div, jx, bnd, if_true, if_false, if_pos, if_neg, Int.toNat_natCast, Int.reduceToNat, Int.add_zero, Int.zero_add, Int.reduceAdd, Int.reduceSub, Int.reduceMul, Int.reduceNeg, Int.reduceLT, Int.reduceLE, jI_rem, sI_1, sI_2, sA_1, sA_2, sA_3, sL_1, sL_2, sL_3, upd_a, updL_a, vaup_a, Nat.reduceEqDiff, Ab_sz, Ab_tx, Ab_ns, Ab_sn, Ab_sx, Ab_ru, Ab_nl, Ab_lsh, Ab_ld, Ab_lm, Ab_lg, Ab_pd, Ab_px, Ab_py, Ab_pz, Ab_kn, Ab_kl, Ab_km]; exact rz.le k hk⟩ (fun s hs => by simp (disch := omega) only [jI_lit, jL_lit, jI_n, jI_add, jI_sub, jI_mul, jI_neg, jL_add, jL_sub, jL_mul, jL_neg, jI_lt, jI_le, jI_eq, jL_lt, jL_le, jL_eq, jI_c, jI_64, jL_32, jI_div, jL_div, jx, bnd, if_true, if_false, if_pos, if_neg, Int.toNat_natCast, Int.reduceToNat, Int.add_zero, Int.zero_add, Int.reduceAdd, Int.reduceSub, Int.reduceMul, Int.reduceNeg, Int.reduceLT, Int.reduceLE, jI_rem, sI_1, sI_2, sA_1, sA_2, sA_3, sL_1, sL_2, sL_3, upd_a, updL_a, vaup_a, Nat.reduceEqDiff, Ab_sz, Ab_tx, Ab_ns, Ab_sn, Ab_sx, Ab_ru, Ab_nl, Ab_lsh, Ab_ld, Ab_lm, Ab_lg, Ab_pd, Ab_px, Ab_py, Ab_pz, Ab_kn, Ab_kl, Ab_km]; exact hS s hs) rfl
    (fun s hs => by
      have : s = 0 := by omega
      subst this
      simp (disch := omega) only [jI_lit, jL_lit, jI_n, jI_add, jI_sub, jI_mul, jI_neg, jL_add, jL_sub, jL_mul, jL_neg, jI_lt, jI_le, jI_eq, jL_lt, jL_le, jL_eq, jI_c, jI_64, jL_32, jI_div, jL_div, jx, bnd, if_true, if_false, if_pos, if_neg, Int.toNat_natCast, Int.reduceToNat, Int.add_zero, Int.zero_add, Int.reduceAdd, Int.reduceSub, Int.reduceMul, Int.reduceNeg, Int.reduceLT, Int.reduceLE, jI_rem, sI_1, sI_2, sA_1, sA_2, sA_3, sL_1, sL_2, sL_3, upd_a, updL_a, vaup_a, Nat.reduceEqDiff, Ab_sz, Ab_tx, Ab_ns, Ab_sn, Ab_sx, Ab_ru, Ab_nl, Ab_lsh, Ab_ld, Ab_lm, Ab_lg, Ab_pd, Ab_px, Ab_py, Ab_pz, Ab_kn, Ab_kl, Ab_km]; exact ⟨rfl, by omega⟩) (fun s h1 h2 => by omega)
  refine ⟨l2, fl, ?_, (same.sA 1 lw _).tr g1, fun s hs => (g3 s hs).1, ⟨hk, hc, hz, hSb, fun s hs => (g3 s hs).2, g2, fun rest h1 h2 row h3 k h4 h5 h6 => ?_⟩⟩
  · unfold f_Lw_findFloors
    rw [show (0 : Int32) = jI 0 from rfl, jx (by omega) (by omega) (by omega), show (jI 0).toNatClampNeg = 0 from rfl]
    simp only [if_true, bnd]
    have e2 : l_Lw_findFloors_9 fu (jI c) 1 (sA lw 1 (upd (lw.2.1 1) 0 (jI 0))) = some (v, l2) := e
    rw [e2]; rfl
  · have h7 := g4 rest h1 h2 row h3
    have h8 := cbF_le (sz := sz) (left := left) (s := S row) h5 h6 kn h4
    omega
end LW
