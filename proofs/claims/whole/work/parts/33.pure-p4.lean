section Lines
variable {a : Ab} {nl : Nat} {nT : Nat → Nat} {LS TS : Nat → MS} {FP : Nat → Bool} {FS : Nat → MS} {bc sg tr tu ff pl lw md : MS}
def thing (a : Ab) (i k : Nat) : Nat := if k = 0 then a.lsh i else if k = 1 then a.ld i else if k = 2 then a.lm i else a.lg i (k - 3)
theorem thing_b (ok : Ok a) {i k : Nat} (hi : i < a.nl) (hk : k < 9) : thing a i k ≤ 20000 := by
  have b3 := ok.lm i hi
  have b4 := ok.ld i hi
  have b5 := ok.lsh i hi
  have b6 := ok.ns
  have b7 := ok.lg i hi (k - 3)
  unfold thing; (repeat' split) <;> omega
theorem c_thing (ok : Ok a) (rc : RC a nl nT LS TS FP FS bc sg) {i k : Nat} (hi : i < a.nl) (hk : k < 9) : f_Ln_thing (LS i) (jI k) = some (jI (thing a i k)) := by
  have r := rc.ls i hi
  unfold f_Ln_thing thing
  rw [r.sh, r.di, r.ma]
  by_cases c0 : k = 0
  · simp (disch := omega) only [jI_lit, jL_lit, jI_n, jI_add, jI_sub, jI_mul, jI_neg, jL_add, jL_sub, jL_mul, jL_neg, jI_lt, jI_le, jI_eq, jL_lt, jL_le, jL_eq, jI_c, jI_64, jL_32, jI_div, jL_div, jx, bnd, if_true, if_false, if_pos, if_neg, Int.toNat_natCast, Int.reduceToNat, Int.add_zero, Int.zero_add, Int.reduceAdd, Int.reduceSub, Int.reduceMul, Int.reduceNeg, Int.reduceLT, Int.reduceLE, jI_rem]
  · by_cases c1 : k = 1
    · simp (disch := omega) only [jI_lit, jL_lit, jI_n, jI_add, jI_sub, jI_mul, jI_neg, jL_add, jL_sub, jL_mul, jL_neg, jI_lt, jI_le, jI_eq, jL_lt, jL_le, jL_eq, jI_c, jI_64, jL_32, jI_div, jL_div, jx, bnd, if_true, if_false, if_pos, if_neg, Int.toNat_natCast, Int.reduceToNat, Int.add_zero, Int.zero_add, Int.reduceAdd, Int.reduceSub, Int.reduceMul, Int.reduceNeg, Int.reduceLT, Int.reduceLE, jI_rem]
    · by_cases c2 : k = 2
      · simp (disch := omega) only [jI_lit, jL_lit, jI_n, jI_add, jI_sub, jI_mul, jI_neg, jL_add, jL_sub, jL_mul, jL_neg, jI_lt, jI_le, jI_eq, jL_lt, jL_le, jL_eq, jI_c, jI_64, jL_32, jI_div, jL_div, jx, bnd, if_true, if_false, if_pos, if_neg, Int.toNat_natCast, Int.reduceToNat, Int.add_zero, Int.zero_add, Int.reduceAdd, Int.reduceSub, Int.reduceMul, Int.reduceNeg, Int.reduceLT, Int.reduceLE, jI_rem]
      · simp (disch := omega) only [jI_lit, jL_lit, jI_n, jI_add, jI_sub, jI_mul, jI_neg, jL_add, jL_sub, jL_mul, jL_neg, jI_lt, jI_le, jI_eq, jL_lt, jL_le, jL_eq, jI_c, jI_64, jL_32, jI_div, jL_div, jx, bnd, if_true, if_false, if_pos, if_neg, Int.toNat_natCast, Int.reduceToNat, Int.add_zero, Int.zero_add, Int.reduceAdd, Int.reduceSub, Int.reduceMul, Int.reduceNeg, Int.reduceLT, Int.reduceLE, jI_rem]
        rw [show ((k : Int) - 3).toNat = k - 3 from by omega, r.lg _ (by omega)]
theorem m_differ (ok : Ok a) (rm : RM a md) {i j k : Nat} (hi : i < a.nl) (hj : j < a.nl) (hk : k < 9) : f_Md_differ md (jI i) (jI j) (jI k) = some (if thing a i k = thing a j k then 0 else 1) := by
  have hn := ok.nl
  have t1 := thing_b ok hi hk
  have t2 := thing_b ok hj hk
  have b5 := ok.lsh i hi
  have b6 := ok.ns
  have b7 := ok.lsh j hj
  have b8 := ok.ld i hi
  have b9 := ok.ld j hj
  have b10 := ok.lm i hi
  have b11 := ok.lm j hj
  unfold f_Md_differ
  unfold thing at t1 t2 ⊢
  simp (disch := omega) only [jI_lit, jL_lit, jI_n, jI_add, jI_sub, jI_mul, jI_neg, jL_add, jL_sub, jL_mul, jL_neg, jI_lt, jI_le, jI_eq, jL_lt, jL_le, jL_eq, jI_c, jI_64, jL_32, jI_div, jL_div, jx, bnd, if_true, if_false, if_pos, if_neg, Int.toNat_natCast, Int.reduceToNat, Int.add_zero, Int.zero_add, Int.reduceAdd, Int.reduceSub, Int.reduceMul, Int.reduceNeg, Int.reduceLT, Int.reduceLE, jI_rem]
  by_cases c0 : k = 0
  · subst c0; simp (disch := omega) only [jI_lit, jL_lit, jI_n, jI_add, jI_sub, jI_mul, jI_neg, jL_add, jL_sub, jL_mul, jL_neg, jI_lt, jI_le, jI_eq, jL_lt, jL_le, jL_eq, jI_c, jI_64, jL_32, jI_div, jL_div, jx, bnd, if_true, if_false, if_pos, if_neg, Int.toNat_natCast, Int.reduceToNat, Int.add_zero, Int.zero_add, Int.reduceAdd, Int.reduceSub, Int.reduceMul, Int.reduceNeg, Int.reduceLT, Int.reduceLE, jI_rem]; rw [rm.sh i hi, rm.sh j hj]; by_cases c9 : a.lsh i = a.lsh j <;> simp (disch := omega) only [jI_lit, jL_lit, jI_n, jI_add, jI_sub, jI_mul, jI_neg, jL_add, jL_sub, jL_mul, jL_neg, jI_lt, jI_le, jI_eq, jL_lt, jL_le, jL_eq, jI_c, jI_64, jL_32, jI_div, jL_div, jx, bnd, if_true, if_false, if_pos, if_neg, Int.toNat_natCast, Int.reduceToNat, Int.add_zero, Int.zero_add, Int.reduceAdd, Int.reduceSub, Int.reduceMul, Int.reduceNeg, Int.reduceLT, Int.reduceLE, jI_rem]
  · by_cases c1 : k = 1
    · subst c1; simp (disch := omega) only [jI_lit, jL_lit, jI_n, jI_add, jI_sub, jI_mul, jI_neg, jL_add, jL_sub, jL_mul, jL_neg, jI_lt, jI_le, jI_eq, jL_lt, jL_le, jL_eq, jI_c, jI_64, jL_32, jI_div, jL_div, jx, bnd, if_true, if_false, if_pos, if_neg, Int.toNat_natCast, Int.reduceToNat, Int.add_zero, Int.zero_add, Int.reduceAdd, Int.reduceSub, Int.reduceMul, Int.reduceNeg, Int.reduceLT, Int.reduceLE, jI_rem]; rw [rm.di i hi, rm.di j hj]; by_cases c9 : a.ld i = a.ld j <;> simp (disch := omega) only [jI_lit, jL_lit, jI_n, jI_add, jI_sub, jI_mul, jI_neg, jL_add, jL_sub, jL_mul, jL_neg, jI_lt, jI_le, jI_eq, jL_lt, jL_le, jL_eq, jI_c, jI_64, jL_32, jI_div, jL_div, jx, bnd, if_true, if_false, if_pos, if_neg, Int.toNat_natCast, Int.reduceToNat, Int.add_zero, Int.zero_add, Int.reduceAdd, Int.reduceSub, Int.reduceMul, Int.reduceNeg, Int.reduceLT, Int.reduceLE, jI_rem]
    · by_cases c2 : k = 2
      · subst c2; simp (disch := omega) only [jI_lit, jL_lit, jI_n, jI_add, jI_sub, jI_mul, jI_neg, jL_add, jL_sub, jL_mul, jL_neg, jI_lt, jI_le, jI_eq, jL_lt, jL_le, jL_eq, jI_c, jI_64, jL_32, jI_div, jL_div, jx, bnd, if_true, if_false, if_pos, if_neg, Int.toNat_natCast, Int.reduceToNat, Int.add_zero, Int.zero_add, Int.reduceAdd, Int.reduceSub, Int.reduceMul, Int.reduceNeg, Int.reduceLT, Int.reduceLE, jI_rem]; rw [rm.ma i hi, rm.ma j hj]; by_cases c9 : a.lm i = a.lm j <;> simp (disch := omega) only [jI_lit, jL_lit, jI_n, jI_add, jI_sub, jI_mul, jI_neg, jL_add, jL_sub, jL_mul, jL_neg, jI_lt, jI_le, jI_eq, jL_lt, jL_le, jL_eq, jI_c, jI_64, jL_32, jI_div, jL_div, jx, bnd, if_true, if_false, if_pos, if_neg, Int.toNat_natCast, Int.reduceToNat, Int.add_zero, Int.zero_add, Int.reduceAdd, Int.reduceSub, Int.reduceMul, Int.reduceNeg, Int.reduceLT, Int.reduceLE, jI_rem]
      · rw [if_neg c0, if_neg c1, if_neg c2] at t1 t2 ⊢
        rw [if_neg c0, if_neg c1, if_neg c2]
        simp (disch := omega) only [jI_lit, jL_lit, jI_n, jI_add, jI_sub, jI_mul, jI_neg, jL_add, jL_sub, jL_mul, jL_neg, jI_lt, jI_le, jI_eq, jL_lt, jL_le, jL_eq, jI_c, jI_64, jL_32, jI_div, jL_div, jx, bnd, if_true, if_false, if_pos, if_neg, Int.toNat_natCast, Int.reduceToNat, Int.add_zero, Int.zero_add, Int.reduceAdd, Int.reduceSub, Int.reduceMul, Int.reduceNeg, Int.reduceLT, Int.reduceLE, jI_rem]
        rw [show (6 * (i : Int) + k - 3).toNat = 6 * i + (k - 3) from by omega, show (6 * (j : Int) + k - 3).toNat = 6 * j + (k - 3) from by omega, m_lgi rm hi hn (by omega), m_lgi rm hj hn (by omega)]
        by_cases c9 : a.lg i (k - 3) = a.lg j (k - 3) <;> simp (disch := omega) only [jI_lit, jL_lit, jI_n, jI_add, jI_sub, jI_mul, jI_neg, jL_add, jL_sub, jL_mul, jL_neg, jI_lt, jI_le, jI_eq, jL_lt, jL_le, jL_eq, jI_c, jI_64, jL_32, jI_div, jL_div, jx, bnd, if_true, if_false, if_pos, if_neg, Int.toNat_natCast, Int.reduceToNat, Int.add_zero, Int.zero_add, Int.reduceAdd, Int.reduceSub, Int.reduceMul, Int.reduceNeg, Int.reduceLT, Int.reduceLE, jI_rem]
theorem x_difL (ok : Ok a) (rc : RC a nl nT LS TS FP FS bc sg) (rm : RM a md) {i j : Nat} (hi : i < a.nl) (hj : j < a.nl) (z : Int) (h1 : 0 ≤ z) (h2 : z < 2147483648) (y1 y2 : Int32) : ∀ (n k f : Nat), k ≤ 9 → f ≤ k → 9 - k < n →
    ∃ r, l_Bc_differs_36 n y1 y2 (jI z) (jI f) (jI k) nl nT LS TS FP FS j i bc sg tr tu ff pl lw = some r ∧ l_Md_differs_28 n (jI i) (jI j) (jI z) (jI f) (jI k) md = some r := by
  intro n
  induction n with
  | zero => intro k f _ _ h; omega
  | succ n ih =>
    intro k f hk hf hn
    rw [l_Bc_differs_36, l_Md_differs_28]
    by_cases c : k = 9
    · subst c; refine ⟨_, by first | (simp (disch := omega) only [jI_lit, jL_lit, jI_n, jI_add, jI_sub, jI_mul, jI_neg, jL_add, jL_sub, jL_mul, jL_neg, jI_lt, jI_le, jI_eq, jL_lt, jL_le, jL_eq, jI_c, jI_64, jL_32, jI_div, jL_div, jx, bnd, if_true, if_false, if_pos, if_neg, Int.toNat_natCast, Int.reduceToNat, Int.add_zero, Int.zero_add, Int.reduceAdd, Int.reduceSub, Int.reduceMul, Int.reduceNeg, Int.reduceLT, Int.reduceLE, jI_rem]; done) | (simp (disch := omega) only [jI_lit, jL_lit, jI_n, jI_add, jI_sub, jI_mul, jI_neg, jL_add, jL_sub, jL_mul, jL_neg, jI_lt, jI_le, jI_eq, jL_lt, jL_le, jL_eq, jI_c, jI_64, jL_32, jI_div, jL_div, jx, bnd, if_true, if_false, if_pos, if_neg, Int.toNat_natCast, Int.reduceToNat, Int.add_zero, Int.zero_add, Int.reduceAdd, Int.reduceSub, Int.reduceMul, Int.reduceNeg, Int.reduceLT, Int.reduceLE, jI_rem]; rfl) | rfl, by first | (simp (disch := omega) only [jI_lit, jL_lit, jI_n, jI_add, jI_sub, jI_mul, jI_neg, jL_add, jL_sub, jL_mul, jL_neg, jI_lt, jI_le, jI_eq, jL_lt, jL_le, jL_eq, jI_c, jI_64, jL_32, jI_div, jL_div, jx, bnd, if_true, if_false, if_pos, if_neg, Int.toNat_natCast, Int.reduceToNat, Int.add_zero, Int.zero_add, Int.reduceAdd, Int.reduceSub, Int.reduceMul, Int.reduceNeg, Int.reduceLT, Int.reduceLE, jI_rem]; done) | (simp (disch := omega) only [jI_lit, jL_lit, jI_n, jI_add, jI_sub, jI_mul, jI_neg, jL_add, jL_sub, jL_mul, jL_neg, jI_lt, jI_le, jI_eq, jL_lt, jL_le, jL_eq, jI_c, jI_64, jL_32, jI_div, jL_div, jx, bnd, if_true, if_false, if_pos, if_neg, Int.toNat_natCast, Int.reduceToNat, Int.add_zero, Int.zero_add, Int.reduceAdd, Int.reduceSub, Int.reduceMul, Int.reduceNeg, Int.reduceLT, Int.reduceLE, jI_rem]; rfl) | rfl⟩
    · rw [c_thing ok rc hi (by omega), c_thing ok rc hj (by omega), m_differ ok rm hi hj (by omega)]
      have t1 := thing_b ok hi (show k < 9 by omega)
      have t2 := thing_b ok hj (show k < 9 by omega)
      by_cases c2 : thing a i k = thing a j k
      · rw [if_pos c2, c2]
        obtain ⟨r, h3, h4⟩ := ih (k + 1) f (by omega) (by omega) (by omega)
        exact ⟨r, by simp (disch := omega) only [jI_lit, jL_lit, jI_n, jI_add, jI_sub, jI_mul, jI_neg, jL_add, jL_sub, jL_mul, jL_neg, jI_lt, jI_le, jI_eq, jL_lt, jL_le, jL_eq, jI_c, jI_64, jL_32, jI_div, jL_div, jx, bnd, if_true, if_false, if_pos, if_neg, Int.toNat_natCast, Int.reduceToNat, Int.add_zero, Int.zero_add, Int.reduceAdd, Int.reduceSub, Int.reduceMul, Int.reduceNeg, Int.reduceLT, Int.reduceLE, jI_rem]; exact h3, by simp (disch := omega) only [jI_lit, jL_lit, jI_n, jI_add, jI_sub, jI_mul, jI_neg, jL_add, jL_sub, jL_mul, jL_neg, jI_lt, jI_le, jI_eq, jL_lt, jL_le, jL_eq, jI_c, jI_64, jL_32, jI_div, jL_div, jx, bnd, if_true, if_false, if_pos, if_neg, Int.toNat_natCast, Int.reduceToNat, Int.add_zero, Int.zero_add, Int.reduceAdd, Int.reduceSub, Int.reduceMul, Int.reduceNeg, Int.reduceLT, Int.reduceLE, jI_rem]; exact h4⟩
      · rw [if_neg c2]
        by_cases c3 : (f : Int) = z
        · refine ⟨_, by first | (simp (disch := omega) only [jI_lit, jL_lit, jI_n, jI_add, jI_sub, jI_mul, jI_neg, jL_add, jL_sub, jL_mul, jL_neg, jI_lt, jI_le, jI_eq, jL_lt, jL_le, jL_eq, jI_c, jI_64, jL_32, jI_div, jL_div, jx, bnd, if_true, if_false, if_pos, if_neg, Int.toNat_natCast, Int.reduceToNat, Int.add_zero, Int.zero_add, Int.reduceAdd, Int.reduceSub, Int.reduceMul, Int.reduceNeg, Int.reduceLT, Int.reduceLE, jI_rem]; done) | (simp (disch := omega) only [jI_lit, jL_lit, jI_n, jI_add, jI_sub, jI_mul, jI_neg, jL_add, jL_sub, jL_mul, jL_neg, jI_lt, jI_le, jI_eq, jL_lt, jL_le, jL_eq, jI_c, jI_64, jL_32, jI_div, jL_div, jx, bnd, if_true, if_false, if_pos, if_neg, Int.toNat_natCast, Int.reduceToNat, Int.add_zero, Int.zero_add, Int.reduceAdd, Int.reduceSub, Int.reduceMul, Int.reduceNeg, Int.reduceLT, Int.reduceLE, jI_rem]; rfl) | rfl, by first | (simp (disch := omega) only [jI_lit, jL_lit, jI_n, jI_add, jI_sub, jI_mul, jI_neg, jL_add, jL_sub, jL_mul, jL_neg, jI_lt, jI_le, jI_eq, jL_lt, jL_le, jL_eq, jI_c, jI_64, jL_32, jI_div, jL_div, jx, bnd, if_true, if_false, if_pos, if_neg, Int.toNat_natCast, Int.reduceToNat, Int.add_zero, Int.zero_add, Int.reduceAdd, Int.reduceSub, Int.reduceMul, Int.reduceNeg, Int.reduceLT, Int.reduceLE, jI_rem]; done) | (simp (disch := omega) only [jI_lit, jL_lit, jI_n, jI_add, jI_sub, jI_mul, jI_neg, jL_add, jL_sub, jL_mul, jL_neg, jI_lt, jI_le, jI_eq, jL_lt, jL_le, jL_eq, jI_c, jI_64, jL_32, jI_div, jL_div, jx, bnd, if_true, if_false, if_pos, if_neg, Int.toNat_natCast, Int.reduceToNat, Int.add_zero, Int.zero_add, Int.reduceAdd, Int.reduceSub, Int.reduceMul, Int.reduceNeg, Int.reduceLT, Int.reduceLE, jI_rem]; rfl) | rfl⟩
        · obtain ⟨r, h3, h4⟩ := ih (k + 1) (f + 1) (by omega) (by omega) (by omega)
          exact ⟨r, by simp (disch := omega) only [jI_lit, jL_lit, jI_n, jI_add, jI_sub, jI_mul, jI_neg, jL_add, jL_sub, jL_mul, jL_neg, jI_lt, jI_le, jI_eq, jL_lt, jL_le, jL_eq, jI_c, jI_64, jL_32, jI_div, jL_div, jx, bnd, if_true, if_false, if_pos, if_neg, Int.toNat_natCast, Int.reduceToNat, Int.add_zero, Int.zero_add, Int.reduceAdd, Int.reduceSub, Int.reduceMul, Int.reduceNeg, Int.reduceLT, Int.reduceLE, jI_rem]; exact h3, by simp (disch := omega) only [jI_lit, jL_lit, jI_n, jI_add, jI_sub, jI_mul, jI_neg, jL_add, jL_sub, jL_mul, jL_neg, jI_lt, jI_le, jI_eq, jL_lt, jL_le, jL_eq, jI_c, jI_64, jL_32, jI_div, jL_div, jx, bnd, if_true, if_false, if_pos, if_neg, Int.toNat_natCast, Int.reduceToNat, Int.add_zero, Int.zero_add, Int.reduceAdd, Int.reduceSub, Int.reduceMul, Int.reduceNeg, Int.reduceLT, Int.reduceLE, jI_rem]; exact h4⟩
theorem x_differs (ok : Ok a) (rc : RC a nl nT LS TS FP FS bc sg) (rm : RM a md) (p1 p2 p3 : Int32) : ∃ r, f_Bc_differs nl nT LS TS FP FS bc sg tr tu ff pl lw p1 p2 p3 = some r ∧ f_Md_differs md p1 p2 p3 = some r := by
  unfold f_Bc_differs f_Md_differs
  rcases x_line (tr := tr) (tu := tu) (ff := ff) (pl := pl) (lw := lw) ok rc rm p1 with ⟨i, hi, rfl, h1, h2⟩ | ⟨h1, h2⟩
  · rcases x_line (tr := tr) (tu := tu) (ff := ff) (pl := pl) (lw := lw) ok rc rm p2 with ⟨j, hj, rfl, h3, h4⟩ | ⟨h3, h4⟩
    · rw [h1, h2, h3, h4]
      simp only [bnd, Option.elim_some]
      rw [if_neg (show ¬ (1 : Int32) = 0 by decide)]
      obtain ⟨z, rfl, z1, z2⟩ := x_ofI p3
      by_cases c : 0 ≤ z
      · obtain ⟨r, g1, g2⟩ := x_difL (tr := tr) (tu := tu) (ff := ff) (pl := pl) (lw := lw) ok rc rm hi hj z c z2 (jI i) (jI j) fu 0 0 (by omega) (by omega) (by unfold fu; omega)
        exact ⟨r, by simp (disch := omega) only [jI_lit, jL_lit, jI_n, jI_add, jI_sub, jI_mul, jI_neg, jL_add, jL_sub, jL_mul, jL_neg, jI_lt, jI_le, jI_eq, jL_lt, jL_le, jL_eq, jI_c, jI_64, jL_32, jI_div, jL_div, jx, bnd, if_true, if_false, if_pos, if_neg, Int.toNat_natCast, Int.reduceToNat, Int.add_zero, Int.zero_add, Int.reduceAdd, Int.reduceSub, Int.reduceMul, Int.reduceNeg, Int.reduceLT, Int.reduceLE, jI_rem]; exact g1, by simp (disch := omega) only [jI_lit, jL_lit, jI_n, jI_add, jI_sub, jI_mul, jI_neg, jL_add, jL_sub, jL_mul, jL_neg, jI_lt, jI_le, jI_eq, jL_lt, jL_le, jL_eq, jI_c, jI_64, jL_32, jI_div, jL_div, jx, bnd, if_true, if_false, if_pos, if_neg, Int.toNat_natCast, Int.reduceToNat, Int.add_zero, Int.zero_add, Int.reduceAdd, Int.reduceSub, Int.reduceMul, Int.reduceNeg, Int.reduceLT, Int.reduceLE, jI_rem]; exact g2⟩
      · refine ⟨_, by first | (simp (disch := omega) only [jI_lit, jL_lit, jI_n, jI_add, jI_sub, jI_mul, jI_neg, jL_add, jL_sub, jL_mul, jL_neg, jI_lt, jI_le, jI_eq, jL_lt, jL_le, jL_eq, jI_c, jI_64, jL_32, jI_div, jL_div, jx, bnd, if_true, if_false, if_pos, if_neg, Int.toNat_natCast, Int.reduceToNat, Int.add_zero, Int.zero_add, Int.reduceAdd, Int.reduceSub, Int.reduceMul, Int.reduceNeg, Int.reduceLT, Int.reduceLE, jI_rem]; done) | (simp (disch := omega) only [jI_lit, jL_lit, jI_n, jI_add, jI_sub, jI_mul, jI_neg, jL_add, jL_sub, jL_mul, jL_neg, jI_lt, jI_le, jI_eq, jL_lt, jL_le, jL_eq, jI_c, jI_64, jL_32, jI_div, jL_div, jx, bnd, if_true, if_false, if_pos, if_neg, Int.toNat_natCast, Int.reduceToNat, Int.add_zero, Int.zero_add, Int.reduceAdd, Int.reduceSub, Int.reduceMul, Int.reduceNeg, Int.reduceLT, Int.reduceLE, jI_rem]; rfl) | rfl, by first | (simp (disch := omega) only [jI_lit, jL_lit, jI_n, jI_add, jI_sub, jI_mul, jI_neg, jL_add, jL_sub, jL_mul, jL_neg, jI_lt, jI_le, jI_eq, jL_lt, jL_le, jL_eq, jI_c, jI_64, jL_32, jI_div, jL_div, jx, bnd, if_true, if_false, if_pos, if_neg, Int.toNat_natCast, Int.reduceToNat, Int.add_zero, Int.zero_add, Int.reduceAdd, Int.reduceSub, Int.reduceMul, Int.reduceNeg, Int.reduceLT, Int.reduceLE, jI_rem]; done) | (simp (disch := omega) only [jI_lit, jL_lit, jI_n, jI_add, jI_sub, jI_mul, jI_neg, jL_add, jL_sub, jL_mul, jL_neg, jI_lt, jI_le, jI_eq, jL_lt, jL_le, jL_eq, jI_c, jI_64, jL_32, jI_div, jL_div, jx, bnd, if_true, if_false, if_pos, if_neg, Int.toNat_natCast, Int.reduceToNat, Int.add_zero, Int.zero_add, Int.reduceAdd, Int.reduceSub, Int.reduceMul, Int.reduceNeg, Int.reduceLT, Int.reduceLE, jI_rem]; rfl) | rfl⟩
    · rw [h1, h2, h3, h4]
      exact ⟨-1, rfl, rfl⟩
  · rw [h1, h2]
    rcases x_line (tr := tr) (tu := tu) (ff := ff) (pl := pl) (lw := lw) ok rc rm p2 with ⟨j, hj, rfl, h3, h4⟩ | ⟨h3, h4⟩
    · rw [h3]; exact ⟨-1, rfl, rfl⟩
    · rw [h3]; exact ⟨-1, rfl, rfl⟩
def bb (a : Ab) (i j : Nat) : Bool := if a.ld i = a.ld j then (if a.lsh i = a.lsh j then decide (i < j) else decide (a.lsh i < a.lsh j)) else decide (a.ld i < a.ld j)
theorem x_bb (ok : Ok a) (rc : RC a nl nT LS TS FP FS bc sg) (rm : RM a md) {i j : Nat} (hi : i < a.nl) (hj : j < a.nl) : f_Bc_isBentBefore nl nT LS TS FP FS bc sg tr tu ff pl lw (jI i) (jI j) = some (jI (b01 (bb a i j))) ∧ f_Md_isBentBefore md (jI i) (jI j) = some (jI (b01 (bb a i j))) := by
  have hn := ok.nl
  have b5 := ok.lsh i hi
  have b6 := ok.ns
  have b7 := ok.lsh j hj
  have b8 := ok.ld i hi
  have b9 := ok.ld j hj
  have r1 := rc.ls i hi
  have r2 := rc.ls j hj
  unfold f_Bc_isBentBefore f_Md_isBentBefore bb b01
  rw [rc.nl]
  simp (disch := omega) only [jI_lit, jL_lit, jI_n, jI_add, jI_sub, jI_mul, jI_neg, jL_add, jL_sub, jL_mul, jL_neg, jI_lt, jI_le, jI_eq, jL_lt, jL_le, jL_eq, jI_c, jI_64, jL_32, jI_div, jL_div, jx, bnd, if_true, if_false, if_pos, if_neg, Int.toNat_natCast, Int.reduceToNat, Int.add_zero, Int.zero_add, Int.reduceAdd, Int.reduceSub, Int.reduceMul, Int.reduceNeg, Int.reduceLT, Int.reduceLE, jI_rem]
  rw [r1.di, r2.di, r1.sh, r2.sh, rm.di i hi, rm.di j hj, rm.sh i hi, rm.sh j hj]
  simp (disch := omega) only [jI_lit, jL_lit, jI_n, jI_add, jI_sub, jI_mul, jI_neg, jL_add, jL_sub, jL_mul, jL_neg, jI_lt, jI_le, jI_eq, jL_lt, jL_le, jL_eq, jI_c, jI_64, jL_32, jI_div, jL_div, jx, bnd, if_true, if_false, if_pos, if_neg, Int.toNat_natCast, Int.reduceToNat, Int.add_zero, Int.zero_add, Int.reduceAdd, Int.reduceSub, Int.reduceMul, Int.reduceNeg, Int.reduceLT, Int.reduceLE, jI_rem]
  by_cases c1 : a.ld i = a.ld j
  · by_cases c2 : a.lsh i = a.lsh j
    · by_cases c3 : i < j
      · constructor <;> simp (disch := omega) only [jI_lit, jL_lit, jI_n, jI_add, jI_sub, jI_mul, jI_neg, jL_add, jL_sub, jL_mul, jL_neg, jI_lt, jI_le, jI_eq, jL_lt, jL_le, jL_eq, jI_c, jI_64, jL_32, jI_div, jL_div, jx, bnd, if_true, if_false, if_pos, if_neg, Int.toNat_natCast, Int.reduceToNat, Int.add_zero, Int.zero_add, Int.reduceAdd, Int.reduceSub, Int.reduceMul, Int.reduceNeg, Int.reduceLT, Int.reduceLE, jI_rem] <;> simp (disch := omega) [*]
      · constructor <;> simp (disch := omega) only [jI_lit, jL_lit, jI_n, jI_add, jI_sub, jI_mul, jI_neg, jL_add, jL_sub, jL_mul, jL_neg, jI_lt, jI_le, jI_eq, jL_lt, jL_le, jL_eq, jI_c, jI_64, jL_32, jI_div, jL_div, jx, bnd, if_true, if_false, if_pos, if_neg, Int.toNat_natCast, Int.reduceToNat, Int.add_zero, Int.zero_add, Int.reduceAdd, Int.reduceSub, Int.reduceMul, Int.reduceNeg, Int.reduceLT, Int.reduceLE, jI_rem] <;> simp (disch := omega) [*]
    · by_cases c3 : a.lsh i < a.lsh j
      · constructor <;> simp (disch := omega) only [jI_lit, jL_lit, jI_n, jI_add, jI_sub, jI_mul, jI_neg, jL_add, jL_sub, jL_mul, jL_neg, jI_lt, jI_le, jI_eq, jL_lt, jL_le, jL_eq, jI_c, jI_64, jL_32, jI_div, jL_div, jx, bnd, if_true, if_false, if_pos, if_neg, Int.toNat_natCast, Int.reduceToNat, Int.add_zero, Int.zero_add, Int.reduceAdd, Int.reduceSub, Int.reduceMul, Int.reduceNeg, Int.reduceLT, Int.reduceLE, jI_rem] <;> simp (disch := omega) [*]
      · constructor <;> simp (disch := omega) only [jI_lit, jL_lit, jI_n, jI_add, jI_sub, jI_mul, jI_neg, jL_add, jL_sub, jL_mul, jL_neg, jI_lt, jI_le, jI_eq, jL_lt, jL_le, jL_eq, jI_c, jI_64, jL_32, jI_div, jL_div, jx, bnd, if_true, if_false, if_pos, if_neg, Int.toNat_natCast, Int.reduceToNat, Int.add_zero, Int.zero_add, Int.reduceAdd, Int.reduceSub, Int.reduceMul, Int.reduceNeg, Int.reduceLT, Int.reduceLE, jI_rem] <;> simp (disch := omega) [*]
  · by_cases c3 : a.ld i < a.ld j
    · constructor <;> simp (disch := omega) only [jI_lit, jL_lit, jI_n, jI_add, jI_sub, jI_mul, jI_neg, jL_add, jL_sub, jL_mul, jL_neg, jI_lt, jI_le, jI_eq, jL_lt, jL_le, jL_eq, jI_c, jI_64, jL_32, jI_div, jL_div, jx, bnd, if_true, if_false, if_pos, if_neg, Int.toNat_natCast, Int.reduceToNat, Int.add_zero, Int.zero_add, Int.reduceAdd, Int.reduceSub, Int.reduceMul, Int.reduceNeg, Int.reduceLT, Int.reduceLE, jI_rem] <;> simp (disch := omega) [*]
    · constructor <;> simp (disch := omega) only [jI_lit, jL_lit, jI_n, jI_add, jI_sub, jI_mul, jI_neg, jL_add, jL_sub, jL_mul, jL_neg, jI_lt, jI_le, jI_eq, jL_lt, jL_le, jL_eq, jI_c, jI_64, jL_32, jI_div, jL_div, jx, bnd, if_true, if_false, if_pos, if_neg, Int.toNat_natCast, Int.reduceToNat, Int.add_zero, Int.zero_add, Int.reduceAdd, Int.reduceSub, Int.reduceMul, Int.reduceNeg, Int.reduceLT, Int.reduceLE, jI_rem] <;> simp (disch := omega) [*]
theorem b01_b (b : Bool) : 0 ≤ b01 b ∧ b01 b ≤ 1 := by cases b <;> decide
theorem x_ordL (ok : Ok a) (rc : RC a nl nT LS TS FP FS bc sg) (rm : RM a md) {i : Nat} (hi : i < a.nl) (y1 : Int32) : ∀ (n k f : Nat), k ≤ a.nl → f ≤ k → a.nl - k < n →
    ∃ r : Nat, r ≤ 12 ∧ l_Bc_linesBentBefore_4 n (jI i) (jI f) (jI k) nl nT LS TS FP FS bc sg tr tu ff pl lw = some (jI r, jI a.nl) ∧ l_Md_order_15 n y1 (jI i) (jI f) (jI k) md = some (jI r, jI a.nl) := by
  intro n
  have hn := ok.nl
  induction n with
  | zero => intro k f _ _ h; omega
  | succ n ih =>
    intro k f hk hf h
    rw [l_Bc_linesBentBefore_4, l_Md_order_15, rc.c1, rm.s2]
    by_cases c : k = a.nl
    · subst c
      exact ⟨f, by omega, by simp (disch := omega) only [jI_lit, jL_lit, jI_n, jI_add, jI_sub, jI_mul, jI_neg, jL_add, jL_sub, jL_mul, jL_neg, jI_lt, jI_le, jI_eq, jL_lt, jL_le, jL_eq, jI_c, jI_64, jL_32, jI_div, jL_div, jx, bnd, if_true, if_false, if_pos, if_neg, Int.toNat_natCast, Int.reduceToNat, Int.add_zero, Int.zero_add, Int.reduceAdd, Int.reduceSub, Int.reduceMul, Int.reduceNeg, Int.reduceLT, Int.reduceLE, jI_rem], by simp (disch := omega) only [jI_lit, jL_lit, jI_n, jI_add, jI_sub, jI_mul, jI_neg, jL_add, jL_sub, jL_mul, jL_neg, jI_lt, jI_le, jI_eq, jL_lt, jL_le, jL_eq, jI_c, jI_64, jL_32, jI_div, jL_div, jx, bnd, if_true, if_false, if_pos, if_neg, Int.toNat_natCast, Int.reduceToNat, Int.add_zero, Int.zero_add, Int.reduceAdd, Int.reduceSub, Int.reduceMul, Int.reduceNeg, Int.reduceLT, Int.reduceLE, jI_rem]⟩
    · obtain ⟨e1, e2⟩ := x_bb (tr := tr) (tu := tu) (ff := ff) (pl := pl) (lw := lw) ok rc rm (show k < a.nl by omega) hi
      rw [e1, e2]
      have hb := b01_b (bb a k i)
      by_cases c2 : b01 (bb a k i) = 0
      · obtain ⟨r, h2, h3, h4⟩ := ih (k + 1) f (by omega) (by omega) (by omega)
        exact ⟨r, h2, by simp (disch := omega) only [jI_lit, jL_lit, jI_n, jI_add, jI_sub, jI_mul, jI_neg, jL_add, jL_sub, jL_mul, jL_neg, jI_lt, jI_le, jI_eq, jL_lt, jL_le, jL_eq, jI_c, jI_64, jL_32, jI_div, jL_div, jx, bnd, if_true, if_false, if_pos, if_neg, Int.toNat_natCast, Int.reduceToNat, Int.add_zero, Int.zero_add, Int.reduceAdd, Int.reduceSub, Int.reduceMul, Int.reduceNeg, Int.reduceLT, Int.reduceLE, jI_rem]; exact h3, by simp (disch := omega) only [jI_lit, jL_lit, jI_n, jI_add, jI_sub, jI_mul, jI_neg, jL_add, jL_sub, jL_mul, jL_neg, jI_lt, jI_le, jI_eq, jL_lt, jL_le, jL_eq, jI_c, jI_64, jL_32, jI_div, jL_div, jx, bnd, if_true, if_false, if_pos, if_neg, Int.toNat_natCast, Int.reduceToNat, Int.add_zero, Int.zero_add, Int.reduceAdd, Int.reduceSub, Int.reduceMul, Int.reduceNeg, Int.reduceLT, Int.reduceLE, jI_rem]; exact h4⟩
      · obtain ⟨r, h2, h3, h4⟩ := ih (k + 1) (f + 1) (by omega) (by omega) (by omega)
        exact ⟨r, h2, by simp (disch := omega) only [jI_lit, jL_lit, jI_n, jI_add, jI_sub, jI_mul, jI_neg, jL_add, jL_sub, jL_mul, jL_neg, jI_lt, jI_le, jI_eq, jL_lt, jL_le, jL_eq, jI_c, jI_64, jL_32, jI_div, jL_div, jx, bnd, if_true, if_false, if_pos, if_neg, Int.toNat_natCast, Int.reduceToNat, Int.add_zero, Int.zero_add, Int.reduceAdd, Int.reduceSub, Int.reduceMul, Int.reduceNeg, Int.reduceLT, Int.reduceLE, jI_rem]; exact h3, by simp (disch := omega) only [jI_lit, jL_lit, jI_n, jI_add, jI_sub, jI_mul, jI_neg, jL_add, jL_sub, jL_mul, jL_neg, jI_lt, jI_le, jI_eq, jL_lt, jL_le, jL_eq, jI_c, jI_64, jL_32, jI_div, jL_div, jx, bnd, if_true, if_false, if_pos, if_neg, Int.toNat_natCast, Int.reduceToNat, Int.add_zero, Int.zero_add, Int.reduceAdd, Int.reduceSub, Int.reduceMul, Int.reduceNeg, Int.reduceLT, Int.reduceLE, jI_rem]; exact h4⟩
theorem x_ordM (ok : Ok a) (rc : RC a nl nT LS TS FP FS bc sg) (rm : RM a md) (p1 : Int32) : ∀ (n k : Nat), k ≤ a.nl → a.nl - k < n →
    ∃ r, l_Bc_order_2 n p1 (jI k) nl nT LS TS FP FS bc sg tr tu ff pl lw = some r ∧ l_Md_order_2 n p1 (jI k) md = some r := by
  intro n
  have hn := ok.nl
  induction n with
  | zero => intro k _ h; omega
  | succ n ih =>
    intro k hk h
    rw [l_Bc_order_2, l_Md_order_2, rc.c1, rm.s2]
    by_cases c : k = a.nl
    · subst c
      refine ⟨_, by first | (simp (disch := omega) only [jI_lit, jL_lit, jI_n, jI_add, jI_sub, jI_mul, jI_neg, jL_add, jL_sub, jL_mul, jL_neg, jI_lt, jI_le, jI_eq, jL_lt, jL_le, jL_eq, jI_c, jI_64, jL_32, jI_div, jL_div, jx, bnd, if_true, if_false, if_pos, if_neg, Int.toNat_natCast, Int.reduceToNat, Int.add_zero, Int.zero_add, Int.reduceAdd, Int.reduceSub, Int.reduceMul, Int.reduceNeg, Int.reduceLT, Int.reduceLE, jI_rem]; done) | (simp (disch := omega) only [jI_lit, jL_lit, jI_n, jI_add, jI_sub, jI_mul, jI_neg, jL_add, jL_sub, jL_mul, jL_neg, jI_lt, jI_le, jI_eq, jL_lt, jL_le, jL_eq, jI_c, jI_64, jL_32, jI_div, jL_div, jx, bnd, if_true, if_false, if_pos, if_neg, Int.toNat_natCast, Int.reduceToNat, Int.add_zero, Int.zero_add, Int.reduceAdd, Int.reduceSub, Int.reduceMul, Int.reduceNeg, Int.reduceLT, Int.reduceLE, jI_rem]; rfl) | rfl, by first | (simp (disch := omega) only [jI_lit, jL_lit, jI_n, jI_add, jI_sub, jI_mul, jI_neg, jL_add, jL_sub, jL_mul, jL_neg, jI_lt, jI_le, jI_eq, jL_lt, jL_le, jL_eq, jI_c, jI_64, jL_32, jI_div, jL_div, jx, bnd, if_true, if_false, if_pos, if_neg, Int.toNat_natCast, Int.reduceToNat, Int.add_zero, Int.zero_add, Int.reduceAdd, Int.reduceSub, Int.reduceMul, Int.reduceNeg, Int.reduceLT, Int.reduceLE, jI_rem]; done) | (simp (disch := omega) only [jI_lit, jL_lit, jI_n, jI_add, jI_sub, jI_mul, jI_neg, jL_add, jL_sub, jL_mul, jL_neg, jI_lt, jI_le, jI_eq, jL_lt, jL_le, jL_eq, jI_c, jI_64, jL_32, jI_div, jL_div, jx, bnd, if_true, if_false, if_pos, if_neg, Int.toNat_natCast, Int.reduceToNat, Int.add_zero, Int.zero_add, Int.reduceAdd, Int.reduceSub, Int.reduceMul, Int.reduceNeg, Int.reduceLT, Int.reduceLE, jI_rem]; rfl) | rfl⟩
    · obtain ⟨r, h2, h3, h4⟩ := x_ordL (tr := tr) (tu := tu) (ff := ff) (pl := pl) (lw := lw) ok rc rm (show k < a.nl by omega) p1 fu 0 0 (by omega) (by omega) (by unfold fu; omega)
      unfold f_Bc_linesBentBefore
      obtain ⟨q, g1, g2⟩ := ih (k + 1) (by omega) (by omega)
      rw [show (0 : Int32) = jI (0 : Nat) from rfl, h3, h4]
      by_cases c2 : jI r = p1
      · exact ⟨jI k, by simp (disch := omega) only [jI_lit, jL_lit, jI_n, jI_add, jI_sub, jI_mul, jI_neg, jL_add, jL_sub, jL_mul, jL_neg, jI_lt, jI_le, jI_eq, jL_lt, jL_le, jL_eq, jI_c, jI_64, jL_32, jI_div, jL_div, jx, bnd, if_true, if_false, if_pos, if_neg, Int.toNat_natCast, Int.reduceToNat, Int.add_zero, Int.zero_add, Int.reduceAdd, Int.reduceSub, Int.reduceMul, Int.reduceNeg, Int.reduceLT, Int.reduceLE, jI_rem], by simp (disch := omega) only [jI_lit, jL_lit, jI_n, jI_add, jI_sub, jI_mul, jI_neg, jL_add, jL_sub, jL_mul, jL_neg, jI_lt, jI_le, jI_eq, jL_lt, jL_le, jL_eq, jI_c, jI_64, jL_32, jI_div, jL_div, jx, bnd, if_true, if_false, if_pos, if_neg, Int.toNat_natCast, Int.reduceToNat, Int.add_zero, Int.zero_add, Int.reduceAdd, Int.reduceSub, Int.reduceMul, Int.reduceNeg, Int.reduceLT, Int.reduceLE, jI_rem]⟩
      · exact ⟨q, by simp (disch := omega) only [jI_lit, jL_lit, jI_n, jI_add, jI_sub, jI_mul, jI_neg, jL_add, jL_sub, jL_mul, jL_neg, jI_lt, jI_le, jI_eq, jL_lt, jL_le, jL_eq, jI_c, jI_64, jL_32, jI_div, jL_div, jx, bnd, if_true, if_false, if_pos, if_neg, Int.toNat_natCast, Int.reduceToNat, Int.add_zero, Int.zero_add, Int.reduceAdd, Int.reduceSub, Int.reduceMul, Int.reduceNeg, Int.reduceLT, Int.reduceLE, jI_rem]; exact g1, by simp (disch := omega) only [jI_lit, jL_lit, jI_n, jI_add, jI_sub, jI_mul, jI_neg, jL_add, jL_sub, jL_mul, jL_neg, jI_lt, jI_le, jI_eq, jL_lt, jL_le, jL_eq, jI_c, jI_64, jL_32, jI_div, jL_div, jx, bnd, if_true, if_false, if_pos, if_neg, Int.toNat_natCast, Int.reduceToNat, Int.add_zero, Int.zero_add, Int.reduceAdd, Int.reduceSub, Int.reduceMul, Int.reduceNeg, Int.reduceLT, Int.reduceLE, jI_rem]; exact g2⟩
theorem x_order (ok : Ok a) (rc : RC a nl nT LS TS FP FS bc sg) (rm : RM a md) (p1 : Int32) : ∃ r, f_Bc_order nl nT LS TS FP FS bc sg tr tu ff pl lw p1 = some r ∧ f_Md_order md p1 = some r :=
  x_ordM ok rc rm p1 fu 0 (by omega) (by have := ok.nl; unfold fu; omega)
end Lines
section Lines
variable {a : Ab} {nl : Nat} {nT : Nat → Nat} {LS TS : Nat → MS} {FP : Nat → Bool} {FS : Nat → MS} {bc sg tr tu ff pl lw md : MS}
theorem gcd_eucl (x0 y0 : Int32) : ∀ (n : Nat) (x y : Nat), x < 9223372036854775808 → y < 9223372036854775808 → y < n → ∀ (w0 : Int64), l_Md_weight_59 n x0 y0 w0 (jL x) (jL y) md = some (jL (Nat.gcd x y), jL 0) := by
  intro n
  induction n with
  | zero => intro x y _ _ h; omega
  | succ n ih =>
    intro x y hx hy hn w0
    rw [l_Md_weight_59]
    by_cases c : y = 0
    · subst c; simp (disch := omega) only [jI_lit, jL_lit, jI_n, jI_add, jI_sub, jI_mul, jI_neg, jL_add, jL_sub, jL_mul, jL_neg, jI_lt, jI_le, jI_eq, jL_lt, jL_le, jL_eq, jI_c, jI_64, jL_32, jI_div, jL_div, jx, bnd, if_true, if_false, if_pos, if_neg, Int.toNat_natCast, Int.reduceToNat, Int.add_zero, Int.zero_add, Int.reduceAdd, Int.reduceSub, Int.reduceMul, Int.reduceNeg, Int.reduceLT, Int.reduceLE, jI_rem]; simp
    · have hm := Nat.mod_lt x (show 0 < y by omega)
      have h := ih y (x % y) hy (by omega) (by omega) w0
      simp (disch := omega) only [jI_lit, jL_lit, jI_n, jI_add, jI_sub, jI_mul, jI_neg, jL_add, jL_sub, jL_mul, jL_neg, jI_lt, jI_le, jI_eq, jL_lt, jL_le, jL_eq, jI_c, jI_64, jL_32, jI_div, jL_div, jx, bnd, if_true, if_false, if_pos, if_neg, Int.toNat_natCast, Int.reduceToNat, Int.add_zero, Int.zero_add, Int.reduceAdd, Int.reduceSub, Int.reduceMul, Int.reduceNeg, Int.reduceLT, Int.reduceLE, jI_rem]
      rw [← Int.natCast_emod] 
      rw [h, Nat.gcd_comm x y, Nat.gcd_rec y x, Nat.gcd_comm]
theorem gcd_trial (w : Nat) (hw : w < 9223372036854775808) : ∀ (n k : Nat), k ≤ 162 → Nat.gcd w 162 ≤ k → k < n → l_Bc_greatestCommonWithDivisor_4 n (jL w) (jI k) = some (jI (Nat.gcd w 162)) := by
  intro n
  have hg : 0 < Nat.gcd w 162 := Nat.gcd_pos_of_pos_right _ (by decide)
  induction n with
  | zero => intro k _ _ h; omega
  | succ n ih =>
    intro k hk hgk hn
    rw [l_Bc_greatestCommonWithDivisor_4]
    by_cases c1 : k ≤ 1
    · have : Nat.gcd w 162 = 1 := by omega
      rw [this]; simp (disch := omega) only [jI_lit, jL_lit, jI_n, jI_add, jI_sub, jI_mul, jI_neg, jL_add, jL_sub, jL_mul, jL_neg, jI_lt, jI_le, jI_eq, jL_lt, jL_le, jL_eq, jI_c, jI_64, jL_32, jI_div, jL_div, jx, bnd, if_true, if_false, if_pos, if_neg, Int.toNat_natCast, Int.reduceToNat, Int.add_zero, Int.zero_add, Int.reduceAdd, Int.reduceSub, Int.reduceMul, Int.reduceNeg, Int.reduceLT, Int.reduceLE, jI_rem]; rfl
    · simp (disch := omega) only [jI_lit, jL_lit, jI_n, jI_add, jI_sub, jI_mul, jI_neg, jL_add, jL_sub, jL_mul, jL_neg, jI_lt, jI_le, jI_eq, jL_lt, jL_le, jL_eq, jI_c, jI_64, jL_32, jI_div, jL_div, jx, bnd, if_true, if_false, if_pos, if_neg, Int.toNat_natCast, Int.reduceToNat, Int.add_zero, Int.zero_add, Int.reduceAdd, Int.reduceSub, Int.reduceMul, Int.reduceNeg, Int.reduceLT, Int.reduceLE, jI_rem]
      rw [← Int.natCast_emod, show (162 : Int) % (k : Int) = ((162 % k : Nat) : Int) from by simp]
      have m1 := Nat.mod_lt 162 (show 0 < k by omega)
      have m2 := Nat.mod_lt w (show 0 < k by omega)
      by_cases c2 : 162 % k = 0
      · by_cases c3 : w % k = 0
        · have hd : k ∣ Nat.gcd w 162 := Nat.dvd_gcd (Nat.dvd_of_mod_eq_zero c3) (Nat.dvd_of_mod_eq_zero c2)
          have := Nat.le_of_dvd hg hd
          have : k = Nat.gcd w 162 := by omega
          simp (disch := omega) only [jI_lit, jL_lit, jI_n, jI_add, jI_sub, jI_mul, jI_neg, jL_add, jL_sub, jL_mul, jL_neg, jI_lt, jI_le, jI_eq, jL_lt, jL_le, jL_eq, jI_c, jI_64, jL_32, jI_div, jL_div, jx, bnd, if_true, if_false, if_pos, if_neg, Int.toNat_natCast, Int.reduceToNat, Int.add_zero, Int.zero_add, Int.reduceAdd, Int.reduceSub, Int.reduceMul, Int.reduceNeg, Int.reduceLT, Int.reduceLE, jI_rem]
          rw [← this]
        · have hne : Nat.gcd w 162 ≠ k := fun h => c3 (Nat.mod_eq_zero_of_dvd (h ▸ Nat.gcd_dvd_left w 162))
          have h := ih (k - 1) (by omega) (by omega) (by omega)
          simp (disch := omega) only [jI_lit, jL_lit, jI_n, jI_add, jI_sub, jI_mul, jI_neg, jL_add, jL_sub, jL_mul, jL_neg, jI_lt, jI_le, jI_eq, jL_lt, jL_le, jL_eq, jI_c, jI_64, jL_32, jI_div, jL_div, jx, bnd, if_true, if_false, if_pos, if_neg, Int.toNat_natCast, Int.reduceToNat, Int.add_zero, Int.zero_add, Int.reduceAdd, Int.reduceSub, Int.reduceMul, Int.reduceNeg, Int.reduceLT, Int.reduceLE, jI_rem]
          rw [← h]; congr 2; omega
      · have hne : Nat.gcd w 162 ≠ k := fun h => c2 (Nat.mod_eq_zero_of_dvd (h ▸ Nat.gcd_dvd_right w 162))
        have h := ih (k - 1) (by omega) (by omega) (by omega)
        simp (disch := omega) only [jI_lit, jL_lit, jI_n, jI_add, jI_sub, jI_mul, jI_neg, jL_add, jL_sub, jL_mul, jL_neg, jI_lt, jI_le, jI_eq, jL_lt, jL_le, jL_eq, jI_c, jI_64, jL_32, jI_div, jL_div, jx, bnd, if_true, if_false, if_pos, if_neg, Int.toNat_natCast, Int.reduceToNat, Int.add_zero, Int.zero_add, Int.reduceAdd, Int.reduceSub, Int.reduceMul, Int.reduceNeg, Int.reduceLT, Int.reduceLE, jI_rem]
        rw [← h]; congr 2; omega
theorem x_weight (ok : Ok a) (rc : RC a nl nT LS TS FP FS bc sg) (rm : RM a md) (p1 p2 : Int32) : ∃ r, f_Bc_weight nl nT LS TS FP FS bc sg tr tu ff pl lw p1 p2 = some r ∧ f_Md_weight md p1 p2 = some r := by
  unfold f_Bc_weight f_Md_weight
  rcases x_line (tr := tr) (tu := tu) (ff := ff) (pl := pl) (lw := lw) ok rc rm p1 with ⟨i, hi, rfl, h1, h2⟩ | ⟨h1, h2⟩
  · rw [h1, h2]
    simp only [bnd, Option.elim_some]
    rw [if_neg (show ¬ (1 : Int32) = 0 by decide), x_cutLength ok rc hi, m_lengthOf ok rm hi, (rc.ls i hi).di, (rc.ls i hi).ma]
    have hn := ok.nl
    obtain ⟨z, rfl, z1, z2⟩ := x_ofI p2
    have b1 := x_cutb ok hi
    have b3 := ok.lm i hi
    have b4 := ok.ld i hi
    have hW : a.ld i * a.ld i * cutLen a i * a.lm i ≤ 40 * 40 * 120000 * 5 := Nat.mul_le_mul (Nat.mul_le_mul (Nat.mul_le_mul b4.2 b4.2) b1) b3.2
    simp (disch := omega) only [jI_lit, jL_lit, jI_n, jI_add, jI_sub, jI_mul, jI_neg, jL_add, jL_sub, jL_mul, jL_neg, jI_lt, jI_le, jI_eq, jL_lt, jL_le, jL_eq, jI_c, jI_64, jL_32, jI_div, jL_div, jx, bnd, if_true, if_false, if_pos, if_neg, Int.toNat_natCast, Int.reduceToNat, Int.add_zero, Int.zero_add, Int.reduceAdd, Int.reduceSub, Int.reduceMul, Int.reduceNeg, Int.reduceLT, Int.reduceLE, jI_rem]
    rw [rm.di i hi, rm.ma i hi]
    simp (disch := omega) only [jI_lit, jL_lit, jI_n, jI_add, jI_sub, jI_mul, jI_neg, jL_add, jL_sub, jL_mul, jL_neg, jI_lt, jI_le, jI_eq, jL_lt, jL_le, jL_eq, jI_c, jI_64, jL_32, jI_div, jL_div, jx, bnd, if_true, if_false, if_pos, if_neg, Int.toNat_natCast, Int.reduceToNat, Int.add_zero, Int.zero_add, Int.reduceAdd, Int.reduceSub, Int.reduceMul, Int.reduceNeg, Int.reduceLT, Int.reduceLE, jI_rem]
    rw [← Int.natCast_mul, ← Int.natCast_mul, ← Int.natCast_mul]
    generalize a.ld i * a.ld i * cutLen a i * a.lm i = w at hW
    have e1 := gcd_eucl (md := md) (jI i) (jI z) fu w 162 (by omega) (by omega) (by unfold fu; omega) (jL w)
    have e2 := gcd_trial w (by omega) fu 162 (by omega) (Nat.le_of_dvd (by decide) (Nat.gcd_dvd_right w 162)) (by unfold fu; omega)
    unfold f_Bc_greatestCommonWithDivisor
    have g1 := Nat.gcd_pos_of_pos_right w (show 0 < 162 by decide)
    have g2 := Nat.le_of_dvd (by decide) (Nat.gcd_dvd_right w 162)
    rw [show ((162 : Nat) : Int) = 162 from rfl] at e1 e2
    rw [show (162 : Int32) = jI 162 from rfl, e2, e1]
    generalize Nat.gcd w 162 = g at g1 g2
    have d1 : (162 : Int) / g ≤ 162 := Int.ediv_le_self _ (by omega)
    have d2 : 0 ≤ (162 : Int) / g := Int.ediv_nonneg (by omega) (by omega)
    by_cases c0 : z = 0
    · subst c0; refine ⟨_, by first | (simp (disch := omega) only [jI_lit, jL_lit, jI_n, jI_add, jI_sub, jI_mul, jI_neg, jL_add, jL_sub, jL_mul, jL_neg, jI_lt, jI_le, jI_eq, jL_lt, jL_le, jL_eq, jI_c, jI_64, jL_32, jI_div, jL_div, jx, bnd, if_true, if_false, if_pos, if_neg, Int.toNat_natCast, Int.reduceToNat, Int.add_zero, Int.zero_add, Int.reduceAdd, Int.reduceSub, Int.reduceMul, Int.reduceNeg, Int.reduceLT, Int.reduceLE, jI_rem]; done) | (simp (disch := omega) only [jI_lit, jL_lit, jI_n, jI_add, jI_sub, jI_mul, jI_neg, jL_add, jL_sub, jL_mul, jL_neg, jI_lt, jI_le, jI_eq, jL_lt, jL_le, jL_eq, jI_c, jI_64, jL_32, jI_div, jL_div, jx, bnd, if_true, if_false, if_pos, if_neg, Int.toNat_natCast, Int.reduceToNat, Int.add_zero, Int.zero_add, Int.reduceAdd, Int.reduceSub, Int.reduceMul, Int.reduceNeg, Int.reduceLT, Int.reduceLE, jI_rem]; rfl) | rfl, by first | (simp (disch := omega) only [jI_lit, jL_lit, jI_n, jI_add, jI_sub, jI_mul, jI_neg, jL_add, jL_sub, jL_mul, jL_neg, jI_lt, jI_le, jI_eq, jL_lt, jL_le, jL_eq, jI_c, jI_64, jL_32, jI_div, jL_div, jx, bnd, if_true, if_false, if_pos, if_neg, Int.toNat_natCast, Int.reduceToNat, Int.add_zero, Int.zero_add, Int.reduceAdd, Int.reduceSub, Int.reduceMul, Int.reduceNeg, Int.reduceLT, Int.reduceLE, jI_rem]; done) | (simp (disch := omega) only [jI_lit, jL_lit, jI_n, jI_add, jI_sub, jI_mul, jI_neg, jL_add, jL_sub, jL_mul, jL_neg, jI_lt, jI_le, jI_eq, jL_lt, jL_le, jL_eq, jI_c, jI_64, jL_32, jI_div, jL_div, jx, bnd, if_true, if_false, if_pos, if_neg, Int.toNat_natCast, Int.reduceToNat, Int.add_zero, Int.zero_add, Int.reduceAdd, Int.reduceSub, Int.reduceMul, Int.reduceNeg, Int.reduceLT, Int.reduceLE, jI_rem]; rfl) | rfl⟩
    · by_cases c1 : z = 1
      · subst c1; refine ⟨_, by first | (simp (disch := omega) only [jI_lit, jL_lit, jI_n, jI_add, jI_sub, jI_mul, jI_neg, jL_add, jL_sub, jL_mul, jL_neg, jI_lt, jI_le, jI_eq, jL_lt, jL_le, jL_eq, jI_c, jI_64, jL_32, jI_div, jL_div, jx, bnd, if_true, if_false, if_pos, if_neg, Int.toNat_natCast, Int.reduceToNat, Int.add_zero, Int.zero_add, Int.reduceAdd, Int.reduceSub, Int.reduceMul, Int.reduceNeg, Int.reduceLT, Int.reduceLE, jI_rem]; done) | (simp (disch := omega) only [jI_lit, jL_lit, jI_n, jI_add, jI_sub, jI_mul, jI_neg, jL_add, jL_sub, jL_mul, jL_neg, jI_lt, jI_le, jI_eq, jL_lt, jL_le, jL_eq, jI_c, jI_64, jL_32, jI_div, jL_div, jx, bnd, if_true, if_false, if_pos, if_neg, Int.toNat_natCast, Int.reduceToNat, Int.add_zero, Int.zero_add, Int.reduceAdd, Int.reduceSub, Int.reduceMul, Int.reduceNeg, Int.reduceLT, Int.reduceLE, jI_rem]; rfl) | rfl, by first | (simp (disch := omega) only [jI_lit, jL_lit, jI_n, jI_add, jI_sub, jI_mul, jI_neg, jL_add, jL_sub, jL_mul, jL_neg, jI_lt, jI_le, jI_eq, jL_lt, jL_le, jL_eq, jI_c, jI_64, jL_32, jI_div, jL_div, jx, bnd, if_true, if_false, if_pos, if_neg, Int.toNat_natCast, Int.reduceToNat, Int.add_zero, Int.zero_add, Int.reduceAdd, Int.reduceSub, Int.reduceMul, Int.reduceNeg, Int.reduceLT, Int.reduceLE, jI_rem]; done) | (simp (disch := omega) only [jI_lit, jL_lit, jI_n, jI_add, jI_sub, jI_mul, jI_neg, jL_add, jL_sub, jL_mul, jL_neg, jI_lt, jI_le, jI_eq, jL_lt, jL_le, jL_eq, jI_c, jI_64, jL_32, jI_div, jL_div, jx, bnd, if_true, if_false, if_pos, if_neg, Int.toNat_natCast, Int.reduceToNat, Int.add_zero, Int.zero_add, Int.reduceAdd, Int.reduceSub, Int.reduceMul, Int.reduceNeg, Int.reduceLT, Int.reduceLE, jI_rem]; rfl) | rfl⟩
      · by_cases c5 : z < 0
        · refine ⟨_, by first | (simp (disch := omega) only [jI_lit, jL_lit, jI_n, jI_add, jI_sub, jI_mul, jI_neg, jL_add, jL_sub, jL_mul, jL_neg, jI_lt, jI_le, jI_eq, jL_lt, jL_le, jL_eq, jI_c, jI_64, jL_32, jI_div, jL_div, jx, bnd, if_true, if_false, if_pos, if_neg, Int.toNat_natCast, Int.reduceToNat, Int.add_zero, Int.zero_add, Int.reduceAdd, Int.reduceSub, Int.reduceMul, Int.reduceNeg, Int.reduceLT, Int.reduceLE, jI_rem]; done) | (simp (disch := omega) only [jI_lit, jL_lit, jI_n, jI_add, jI_sub, jI_mul, jI_neg, jL_add, jL_sub, jL_mul, jL_neg, jI_lt, jI_le, jI_eq, jL_lt, jL_le, jL_eq, jI_c, jI_64, jL_32, jI_div, jL_div, jx, bnd, if_true, if_false, if_pos, if_neg, Int.toNat_natCast, Int.reduceToNat, Int.add_zero, Int.zero_add, Int.reduceAdd, Int.reduceSub, Int.reduceMul, Int.reduceNeg, Int.reduceLT, Int.reduceLE, jI_rem]; rfl) | rfl, by first | (simp (disch := omega) only [jI_lit, jL_lit, jI_n, jI_add, jI_sub, jI_mul, jI_neg, jL_add, jL_sub, jL_mul, jL_neg, jI_lt, jI_le, jI_eq, jL_lt, jL_le, jL_eq, jI_c, jI_64, jL_32, jI_div, jL_div, jx, bnd, if_true, if_false, if_pos, if_neg, Int.toNat_natCast, Int.reduceToNat, Int.add_zero, Int.zero_add, Int.reduceAdd, Int.reduceSub, Int.reduceMul, Int.reduceNeg, Int.reduceLT, Int.reduceLE, jI_rem]; done) | (simp (disch := omega) only [jI_lit, jL_lit, jI_n, jI_add, jI_sub, jI_mul, jI_neg, jL_add, jL_sub, jL_mul, jL_neg, jI_lt, jI_le, jI_eq, jL_lt, jL_le, jL_eq, jI_c, jI_64, jL_32, jI_div, jL_div, jx, bnd, if_true, if_false, if_pos, if_neg, Int.toNat_natCast, Int.reduceToNat, Int.add_zero, Int.zero_add, Int.reduceAdd, Int.reduceSub, Int.reduceMul, Int.reduceNeg, Int.reduceLT, Int.reduceLE, jI_rem]; rfl) | rfl⟩
        · refine ⟨_, by first | (simp (disch := omega) only [jI_lit, jL_lit, jI_n, jI_add, jI_sub, jI_mul, jI_neg, jL_add, jL_sub, jL_mul, jL_neg, jI_lt, jI_le, jI_eq, jL_lt, jL_le, jL_eq, jI_c, jI_64, jL_32, jI_div, jL_div, jx, bnd, if_true, if_false, if_pos, if_neg, Int.toNat_natCast, Int.reduceToNat, Int.add_zero, Int.zero_add, Int.reduceAdd, Int.reduceSub, Int.reduceMul, Int.reduceNeg, Int.reduceLT, Int.reduceLE, jI_rem]; done) | (simp (disch := omega) only [jI_lit, jL_lit, jI_n, jI_add, jI_sub, jI_mul, jI_neg, jL_add, jL_sub, jL_mul, jL_neg, jI_lt, jI_le, jI_eq, jL_lt, jL_le, jL_eq, jI_c, jI_64, jL_32, jI_div, jL_div, jx, bnd, if_true, if_false, if_pos, if_neg, Int.toNat_natCast, Int.reduceToNat, Int.add_zero, Int.zero_add, Int.reduceAdd, Int.reduceSub, Int.reduceMul, Int.reduceNeg, Int.reduceLT, Int.reduceLE, jI_rem]; rfl) | rfl, by first | (simp (disch := omega) only [jI_lit, jL_lit, jI_n, jI_add, jI_sub, jI_mul, jI_neg, jL_add, jL_sub, jL_mul, jL_neg, jI_lt, jI_le, jI_eq, jL_lt, jL_le, jL_eq, jI_c, jI_64, jL_32, jI_div, jL_div, jx, bnd, if_true, if_false, if_pos, if_neg, Int.toNat_natCast, Int.reduceToNat, Int.add_zero, Int.zero_add, Int.reduceAdd, Int.reduceSub, Int.reduceMul, Int.reduceNeg, Int.reduceLT, Int.reduceLE, jI_rem]; done) | (simp (disch := omega) only [jI_lit, jL_lit, jI_n, jI_add, jI_sub, jI_mul, jI_neg, jL_add, jL_sub, jL_mul, jL_neg, jI_lt, jI_le, jI_eq, jL_lt, jL_le, jL_eq, jI_c, jI_64, jL_32, jI_div, jL_div, jx, bnd, if_true, if_false, if_pos, if_neg, Int.toNat_natCast, Int.reduceToNat, Int.add_zero, Int.zero_add, Int.reduceAdd, Int.reduceSub, Int.reduceMul, Int.reduceNeg, Int.reduceLT, Int.reduceLE, jI_rem]; rfl) | rfl⟩
  · rw [h1, h2]
    exact ⟨-1, rfl, rfl⟩
end Lines
section Lines
variable {a : Ab} {nl : Nat} {nT : Nat → Nat} {LS TS : Nat → MS} {FP : Nat → Bool} {FS : Nat → MS} {bc sg tr tu ff pl lw md : MS}
def gmax (f : Nat → Nat) : Nat → Nat
  | 0 => 0
  | k + 1 => max (gmax f k) (f k)
theorem gmax_b {f : Nat → Nat} {m : Nat} : ∀ (k : Nat), (∀ j, j < k → f j ≤ m) → gmax f k ≤ m := by
  intro k
  induction k with
  | zero => intro _; simp [gmax]
  | succ k ih => intro h; have := ih (fun j hj => h j (by omega)); have := h k (by omega); simp only [gmax]; omega
theorem gmax_p {f : Nat → Nat} : ∀ (k : Nat), 0 < k → (∀ j, j < k → 1 ≤ f j) → 1 ≤ gmax f k := by
  intro k h0 h
  cases k with
  | zero => omega
  | succ k => have := h k (by omega); simp only [gmax]; omega
theorem c_greatL {d : Nat} {S : MS} (ok : Ok a) (rf : RF a d S) : ∀ (n k : Nat), k ≤ a.kn d → a.kn d - k < n → l_Sf_greatest_4 n (jI (gmax (a.kl d) k)) (jI k) S = some (jI (gmax (a.kl d) (a.kn d)), jI (a.kn d)) := by
  intro n
  have h3 := ok.kn d
  induction n with
  | zero => intro k _ h; omega
  | succ n ih =>
    intro k hk h
    rw [l_Sf_greatest_4, rf.kn]
    by_cases c : k = a.kn d
    · subst c; simp (disch := omega) only [jI_lit, jL_lit, jI_n, jI_add, jI_sub, jI_mul, jI_neg, jL_add, jL_sub, jL_mul, jL_neg, jI_lt, jI_le, jI_eq, jL_lt, jL_le, jL_eq, jI_c, jI_64, jL_32, jI_div, jL_div, jx, bnd, if_true, if_false, if_pos, if_neg, Int.toNat_natCast, Int.reduceToNat, Int.add_zero, Int.zero_add, Int.reduceAdd, Int.reduceSub, Int.reduceMul, Int.reduceNeg, Int.reduceLT, Int.reduceLE, jI_rem]
    · have hb := ok.kl d k (by omega)
      have hg : gmax (a.kl d) k ≤ 30000 := gmax_b k (fun j hj => (ok.kl d j (by omega)).2)
      have ih' := ih (k + 1) (by omega) (by omega)
      simp only [gmax] at ih'
      simp (disch := omega) only [jI_lit, jL_lit, jI_n, jI_add, jI_sub, jI_mul, jI_neg, jL_add, jL_sub, jL_mul, jL_neg, jI_lt, jI_le, jI_eq, jL_lt, jL_le, jL_eq, jI_c, jI_64, jL_32, jI_div, jL_div, jx, bnd, if_true, if_false, if_pos, if_neg, Int.toNat_natCast, Int.reduceToNat, Int.add_zero, Int.zero_add, Int.reduceAdd, Int.reduceSub, Int.reduceMul, Int.reduceNeg, Int.reduceLT, Int.reduceLE, jI_rem]
      rw [rf.kl k (by omega)]
      by_cases c2 : gmax (a.kl d) k < a.kl d k
      · rw [Nat.max_eq_right (by omega)] at ih'
        simp (disch := omega) only [jI_lit, jL_lit, jI_n, jI_add, jI_sub, jI_mul, jI_neg, jL_add, jL_sub, jL_mul, jL_neg, jI_lt, jI_le, jI_eq, jL_lt, jL_le, jL_eq, jI_c, jI_64, jL_32, jI_div, jL_div, jx, bnd, if_true, if_false, if_pos, if_neg, Int.toNat_natCast, Int.reduceToNat, Int.add_zero, Int.zero_add, Int.reduceAdd, Int.reduceSub, Int.reduceMul, Int.reduceNeg, Int.reduceLT, Int.reduceLE, jI_rem]; exact ih'
      · rw [Nat.max_eq_left (by omega)] at ih'
        simp (disch := omega) only [jI_lit, jL_lit, jI_n, jI_add, jI_sub, jI_mul, jI_neg, jL_add, jL_sub, jL_mul, jL_neg, jI_lt, jI_le, jI_eq, jL_lt, jL_le, jL_eq, jI_c, jI_64, jL_32, jI_div, jL_div, jx, bnd, if_true, if_false, if_pos, if_neg, Int.toNat_natCast, Int.reduceToNat, Int.add_zero, Int.zero_add, Int.reduceAdd, Int.reduceSub, Int.reduceMul, Int.reduceNeg, Int.reduceLT, Int.reduceLE, jI_rem]; exact ih'
theorem m_lapL (ok : Ok a) (rm : RM a md) {d : Nat} (hd : d < 41) (y1 : Int32) (y2 : Int64) : ∀ (n k : Nat), k ≤ a.kn d → a.kn d - k < n → l_Md_lap_35 n y1 y2 (jI d) (jL (gmax (a.kl d) k)) (jI k) md = some (jL (gmax (a.kl d) (a.kn d)), jI (a.kn d)) := by
  intro n
  have h3 := ok.kn d
  induction n with
  | zero => intro k _ h; omega
  | succ n ih =>
    intro k hk h
    rw [l_Md_lap_35]
    simp (disch := omega) only [jI_lit, jL_lit, jI_n, jI_add, jI_sub, jI_mul, jI_neg, jL_add, jL_sub, jL_mul, jL_neg, jI_lt, jI_le, jI_eq, jL_lt, jL_le, jL_eq, jI_c, jI_64, jL_32, jI_div, jL_div, jx, bnd, if_true, if_false, if_pos, if_neg, Int.toNat_natCast, Int.reduceToNat, Int.add_zero, Int.zero_add, Int.reduceAdd, Int.reduceSub, Int.reduceMul, Int.reduceNeg, Int.reduceLT, Int.reduceLE, jI_rem]
    rw [rm.kn d hd]
    by_cases c : k = a.kn d
    · subst c; simp (disch := omega) only [jI_lit, jL_lit, jI_n, jI_add, jI_sub, jI_mul, jI_neg, jL_add, jL_sub, jL_mul, jL_neg, jI_lt, jI_le, jI_eq, jL_lt, jL_le, jL_eq, jI_c, jI_64, jL_32, jI_div, jL_div, jx, bnd, if_true, if_false, if_pos, if_neg, Int.toNat_natCast, Int.reduceToNat, Int.add_zero, Int.zero_add, Int.reduceAdd, Int.reduceSub, Int.reduceMul, Int.reduceNeg, Int.reduceLT, Int.reduceLE, jI_rem]
    · have hb := ok.kl d k (by omega)
      have hg : gmax (a.kl d) k ≤ 30000 := gmax_b k (fun j hj => (ok.kl d j (by omega)).2)
      have ih' := ih (k + 1) (by omega) (by omega)
      simp only [gmax] at ih'
      simp (disch := omega) only [jI_lit, jL_lit, jI_n, jI_add, jI_sub, jI_mul, jI_neg, jL_add, jL_sub, jL_mul, jL_neg, jI_lt, jI_le, jI_eq, jL_lt, jL_le, jL_eq, jI_c, jI_64, jL_32, jI_div, jL_div, jx, bnd, if_true, if_false, if_pos, if_neg, Int.toNat_natCast, Int.reduceToNat, Int.add_zero, Int.zero_add, Int.reduceAdd, Int.reduceSub, Int.reduceMul, Int.reduceNeg, Int.reduceLT, Int.reduceLE, jI_rem]
      rw [show (3 * (d : Int) + k).toNat = 3 * d + k from by omega, rm.kl d hd k (by omega)]
      by_cases c2 : gmax (a.kl d) k < a.kl d k
      · rw [Nat.max_eq_right (by omega)] at ih'
        simp (disch := omega) only [jI_lit, jL_lit, jI_n, jI_add, jI_sub, jI_mul, jI_neg, jL_add, jL_sub, jL_mul, jL_neg, jI_lt, jI_le, jI_eq, jL_lt, jL_le, jL_eq, jI_c, jI_64, jL_32, jI_div, jL_div, jx, bnd, if_true, if_false, if_pos, if_neg, Int.toNat_natCast, Int.reduceToNat, Int.add_zero, Int.zero_add, Int.reduceAdd, Int.reduceSub, Int.reduceMul, Int.reduceNeg, Int.reduceLT, Int.reduceLE, jI_rem]; exact ih'
      · rw [Nat.max_eq_left (by omega)] at ih'
        simp (disch := omega) only [jI_lit, jL_lit, jI_n, jI_add, jI_sub, jI_mul, jI_neg, jL_add, jL_sub, jL_mul, jL_neg, jI_lt, jI_le, jI_eq, jL_lt, jL_le, jL_eq, jI_c, jI_64, jL_32, jI_div, jL_div, jx, bnd, if_true, if_false, if_pos, if_neg, Int.toNat_natCast, Int.reduceToNat, Int.add_zero, Int.zero_add, Int.reduceAdd, Int.reduceSub, Int.reduceMul, Int.reduceNeg, Int.reduceLT, Int.reduceLE, jI_rem]; exact ih'
theorem m_lapN (ok : Ok a) (rm : RM a md) {i : Nat} (hi : i < a.nl) (y4 : Int32) (g l N : Int) (hg : l < g) (h0 : 0 ≤ l) (h1 : g ≤ 30000) (h2 : 0 ≤ N) (hN : (cutLen a i : Int) ≤ g + N * (g - l)) (hM : ∀ m : Int, 0 ≤ m → m < N → g + m * (g - l) < cutLen a i) :
    ∀ (n : Nat) (k : Int), 0 ≤ k → k ≤ N → N - k < n → l_Md_lap_103 n (jI i) (jL l) y4 (jL g) (jI k) md = some (jI N) := by
  intro n
  have hb := x_cutb ok hi
  have hNb : N ≤ 120000 := by
    by_cases c : N ≤ 0
    · omega
    · have := hM (N - 1) (by omega) (by omega)
      have h5 : (N - 1) * 1 ≤ (N - 1) * (g - l) := Int.mul_le_mul_of_nonneg_left (by omega) (by omega)
      omega
  induction n with
  | zero => intro k _ _ h; omega
  | succ n ih =>
    intro k hk0 hk h
    rw [l_Md_lap_103, m_lengthOf ok rm hi]
    have e : (k + 1) * g - k * l = g + k * (g - l) := by rw [Int.add_mul, Int.mul_sub]; omega
    have hk1 : 0 ≤ k * (g - l) := Int.mul_nonneg hk0 (by omega)
    have hk2 : k * (g - l) ≤ 120000 * 30000 := Int.mul_le_mul (by omega) (by omega) (by omega) (by omega)
    simp (disch := omega) only [jI_lit, jL_lit, jI_n, jI_add, jI_sub, jI_mul, jI_neg, jL_add, jL_sub, jL_mul, jL_neg, jI_lt, jI_le, jI_eq, jL_lt, jL_le, jL_eq, jI_c, jI_64, jL_32, jI_div, jL_div, jx, bnd, if_true, if_false, if_pos, if_neg, Int.toNat_natCast, Int.reduceToNat, Int.add_zero, Int.zero_add, Int.reduceAdd, Int.reduceSub, Int.reduceMul, Int.reduceNeg, Int.reduceLT, Int.reduceLE, jI_rem]
    rw [e]
    by_cases c : k = N
    · subst c; simp (disch := omega) only [jI_lit, jL_lit, jI_n, jI_add, jI_sub, jI_mul, jI_neg, jL_add, jL_sub, jL_mul, jL_neg, jI_lt, jI_le, jI_eq, jL_lt, jL_le, jL_eq, jI_c, jI_64, jL_32, jI_div, jL_div, jx, bnd, if_true, if_false, if_pos, if_neg, Int.toNat_natCast, Int.reduceToNat, Int.add_zero, Int.zero_add, Int.reduceAdd, Int.reduceSub, Int.reduceMul, Int.reduceNeg, Int.reduceLT, Int.reduceLE, jI_rem]
    · have := hM k hk0 (by omega)
      have ih' := ih (k + 1) (by omega) (by omega) (by omega)
      simp (disch := omega) only [jI_lit, jL_lit, jI_n, jI_add, jI_sub, jI_mul, jI_neg, jL_add, jL_sub, jL_mul, jL_neg, jI_lt, jI_le, jI_eq, jL_lt, jL_le, jL_eq, jI_c, jI_64, jL_32, jI_div, jL_div, jx, bnd, if_true, if_false, if_pos, if_neg, Int.toNat_natCast, Int.reduceToNat, Int.add_zero, Int.zero_add, Int.reduceAdd, Int.reduceSub, Int.reduceMul, Int.reduceNeg, Int.reduceLT, Int.reduceLE, jI_rem]; exact ih'
theorem x_lap (ok : Ok a) (rc : RC a nl nT LS TS FP FS bc sg) (rm : RM a md) (p1 : Int32) (p2 : Int64) : ∃ r, f_Bc_lap nl nT LS TS FP FS bc sg tr tu ff pl lw p1 p2 = some r ∧ f_Md_lap md p1 p2 = some r := by
  unfold f_Bc_lap f_Md_lap
  rcases x_line (tr := tr) (tu := tu) (ff := ff) (pl := pl) (lw := lw) ok rc rm p1 with ⟨i, hi, rfl, h1, h2⟩ | ⟨h1, h2⟩
  · rw [h1, h2]
    simp only [bnd, Option.elim_some]
    have hn := ok.nl
    obtain ⟨z, rfl, z1, z2⟩ := x_ofL p2
    have b1 := x_cutb ok hi
    have b4 := ok.ld i hi
    rw [if_neg (show ¬ (1 : Int32) = 0 by decide), x_cutLength ok rc hi, (rc.ls i hi).di]
    unfold f_Md_isIn
    by_cases c1 : z < 0
    · refine ⟨_, by first | (simp (disch := omega) only [jI_lit, jL_lit, jI_n, jI_add, jI_sub, jI_mul, jI_neg, jL_add, jL_sub, jL_mul, jL_neg, jI_lt, jI_le, jI_eq, jL_lt, jL_le, jL_eq, jI_c, jI_64, jL_32, jI_div, jL_div, jx, bnd, if_true, if_false, if_pos, if_neg, Int.toNat_natCast, Int.reduceToNat, Int.add_zero, Int.zero_add, Int.reduceAdd, Int.reduceSub, Int.reduceMul, Int.reduceNeg, Int.reduceLT, Int.reduceLE, jI_rem]; done) | (simp (disch := omega) only [jI_lit, jL_lit, jI_n, jI_add, jI_sub, jI_mul, jI_neg, jL_add, jL_sub, jL_mul, jL_neg, jI_lt, jI_le, jI_eq, jL_lt, jL_le, jL_eq, jI_c, jI_64, jL_32, jI_div, jL_div, jx, bnd, if_true, if_false, if_pos, if_neg, Int.toNat_natCast, Int.reduceToNat, Int.add_zero, Int.zero_add, Int.reduceAdd, Int.reduceSub, Int.reduceMul, Int.reduceNeg, Int.reduceLT, Int.reduceLE, jI_rem]; rfl) | rfl, by first | (simp (disch := omega) only [jI_lit, jL_lit, jI_n, jI_add, jI_sub, jI_mul, jI_neg, jL_add, jL_sub, jL_mul, jL_neg, jI_lt, jI_le, jI_eq, jL_lt, jL_le, jL_eq, jI_c, jI_64, jL_32, jI_div, jL_div, jx, bnd, if_true, if_false, if_pos, if_neg, Int.toNat_natCast, Int.reduceToNat, Int.add_zero, Int.zero_add, Int.reduceAdd, Int.reduceSub, Int.reduceMul, Int.reduceNeg, Int.reduceLT, Int.reduceLE, jI_rem]; done) | (simp (disch := omega) only [jI_lit, jL_lit, jI_n, jI_add, jI_sub, jI_mul, jI_neg, jL_add, jL_sub, jL_mul, jL_neg, jI_lt, jI_le, jI_eq, jL_lt, jL_le, jL_eq, jI_c, jI_64, jL_32, jI_div, jL_div, jx, bnd, if_true, if_false, if_pos, if_neg, Int.toNat_natCast, Int.reduceToNat, Int.add_zero, Int.zero_add, Int.reduceAdd, Int.reduceSub, Int.reduceMul, Int.reduceNeg, Int.reduceLT, Int.reduceLE, jI_rem]; rfl) | rfl⟩
    · by_cases c2 : 5000 < z
      · refine ⟨_, by first | (simp (disch := omega) only [jI_lit, jL_lit, jI_n, jI_add, jI_sub, jI_mul, jI_neg, jL_add, jL_sub, jL_mul, jL_neg, jI_lt, jI_le, jI_eq, jL_lt, jL_le, jL_eq, jI_c, jI_64, jL_32, jI_div, jL_div, jx, bnd, if_true, if_false, if_pos, if_neg, Int.toNat_natCast, Int.reduceToNat, Int.add_zero, Int.zero_add, Int.reduceAdd, Int.reduceSub, Int.reduceMul, Int.reduceNeg, Int.reduceLT, Int.reduceLE, jI_rem]; done) | (simp (disch := omega) only [jI_lit, jL_lit, jI_n, jI_add, jI_sub, jI_mul, jI_neg, jL_add, jL_sub, jL_mul, jL_neg, jI_lt, jI_le, jI_eq, jL_lt, jL_le, jL_eq, jI_c, jI_64, jL_32, jI_div, jL_div, jx, bnd, if_true, if_false, if_pos, if_neg, Int.toNat_natCast, Int.reduceToNat, Int.add_zero, Int.zero_add, Int.reduceAdd, Int.reduceSub, Int.reduceMul, Int.reduceNeg, Int.reduceLT, Int.reduceLE, jI_rem]; rfl) | rfl, by first | (simp (disch := omega) only [jI_lit, jL_lit, jI_n, jI_add, jI_sub, jI_mul, jI_neg, jL_add, jL_sub, jL_mul, jL_neg, jI_lt, jI_le, jI_eq, jL_lt, jL_le, jL_eq, jI_c, jI_64, jL_32, jI_div, jL_div, jx, bnd, if_true, if_false, if_pos, if_neg, Int.toNat_natCast, Int.reduceToNat, Int.add_zero, Int.zero_add, Int.reduceAdd, Int.reduceSub, Int.reduceMul, Int.reduceNeg, Int.reduceLT, Int.reduceLE, jI_rem]; done) | (simp (disch := omega) only [jI_lit, jL_lit, jI_n, jI_add, jI_sub, jI_mul, jI_neg, jL_add, jL_sub, jL_mul, jL_neg, jI_lt, jI_le, jI_eq, jL_lt, jL_le, jL_eq, jI_c, jI_64, jL_32, jI_div, jL_div, jx, bnd, if_true, if_false, if_pos, if_neg, Int.toNat_natCast, Int.reduceToNat, Int.add_zero, Int.zero_add, Int.reduceAdd, Int.reduceSub, Int.reduceMul, Int.reduceNeg, Int.reduceLT, Int.reduceLE, jI_rem]; rfl) | rfl⟩
      · simp (disch := omega) only [jI_lit, jL_lit, jI_n, jI_add, jI_sub, jI_mul, jI_neg, jL_add, jL_sub, jL_mul, jL_neg, jI_lt, jI_le, jI_eq, jL_lt, jL_le, jL_eq, jI_c, jI_64, jL_32, jI_div, jL_div, jx, bnd, if_true, if_false, if_pos, if_neg, Int.toNat_natCast, Int.reduceToNat, Int.add_zero, Int.zero_add, Int.reduceAdd, Int.reduceSub, Int.reduceMul, Int.reduceNeg, Int.reduceLT, Int.reduceLE, jI_rem]
        rw [show ((a.ld i : Int) - 4).toNat = a.ld i - 4 from by omega, rm.di i hi]
        have e := m_lapL ok rm (show a.ld i < 41 by omega) (jI i) (jL z) fu 0 (by omega) (by have := ok.kn (a.ld i); unfold fu; omega)
        simp only [gmax] at e
        rw [show ((0 : Nat) : Int) = 0 from rfl] at e
        rw [e]
        by_cases hF : FP (a.ld i - 4) = true
        · have rf := rc.fs (a.ld i - 4) (by omega) hF
          rw [show a.ld i - 4 + 4 = a.ld i from by omega] at rf
          have e2 := c_greatL ok rf fu 0 (by omega) (by have := ok.kn (a.ld i); unfold fu; omega)
          simp only [gmax] at e2
          rw [show ((0 : Nat) : Int) = 0 from rfl] at e2
          rw [if_pos hF]
          unfold f_Sf_greatest
          rw [show (0 : Int32) = jI 0 from rfl, e2]
          have hgm : gmax (a.kl (a.ld i)) (a.kn (a.ld i)) ≤ 30000 := gmax_b _ (fun j hj => (ok.kl _ j hj).2)
          generalize gmax (a.kl (a.ld i)) (a.kn (a.ld i)) = g at hgm
          by_cases c3 : (g : Int) ≤ z
          · by_cases c4 : g = 0
            · refine ⟨_, by first | (simp (disch := omega) only [jI_lit, jL_lit, jI_n, jI_add, jI_sub, jI_mul, jI_neg, jL_add, jL_sub, jL_mul, jL_neg, jI_lt, jI_le, jI_eq, jL_lt, jL_le, jL_eq, jI_c, jI_64, jL_32, jI_div, jL_div, jx, bnd, if_true, if_false, if_pos, if_neg, Int.toNat_natCast, Int.reduceToNat, Int.add_zero, Int.zero_add, Int.reduceAdd, Int.reduceSub, Int.reduceMul, Int.reduceNeg, Int.reduceLT, Int.reduceLE, jI_rem]; done) | (simp (disch := omega) only [jI_lit, jL_lit, jI_n, jI_add, jI_sub, jI_mul, jI_neg, jL_add, jL_sub, jL_mul, jL_neg, jI_lt, jI_le, jI_eq, jL_lt, jL_le, jL_eq, jI_c, jI_64, jL_32, jI_div, jL_div, jx, bnd, if_true, if_false, if_pos, if_neg, Int.toNat_natCast, Int.reduceToNat, Int.add_zero, Int.zero_add, Int.reduceAdd, Int.reduceSub, Int.reduceMul, Int.reduceNeg, Int.reduceLT, Int.reduceLE, jI_rem]; rfl) | rfl, by first | (simp (disch := omega) only [jI_lit, jL_lit, jI_n, jI_add, jI_sub, jI_mul, jI_neg, jL_add, jL_sub, jL_mul, jL_neg, jI_lt, jI_le, jI_eq, jL_lt, jL_le, jL_eq, jI_c, jI_64, jL_32, jI_div, jL_div, jx, bnd, if_true, if_false, if_pos, if_neg, Int.toNat_natCast, Int.reduceToNat, Int.add_zero, Int.zero_add, Int.reduceAdd, Int.reduceSub, Int.reduceMul, Int.reduceNeg, Int.reduceLT, Int.reduceLE, jI_rem]; done) | (simp (disch := omega) only [jI_lit, jL_lit, jI_n, jI_add, jI_sub, jI_mul, jI_neg, jL_add, jL_sub, jL_mul, jL_neg, jI_lt, jI_le, jI_eq, jL_lt, jL_le, jL_eq, jI_c, jI_64, jL_32, jI_div, jL_div, jx, bnd, if_true, if_false, if_pos, if_neg, Int.toNat_natCast, Int.reduceToNat, Int.add_zero, Int.zero_add, Int.reduceAdd, Int.reduceSub, Int.reduceMul, Int.reduceNeg, Int.reduceLT, Int.reduceLE, jI_rem]; rfl) | rfl⟩
            · refine ⟨_, by first | (simp (disch := omega) only [jI_lit, jL_lit, jI_n, jI_add, jI_sub, jI_mul, jI_neg, jL_add, jL_sub, jL_mul, jL_neg, jI_lt, jI_le, jI_eq, jL_lt, jL_le, jL_eq, jI_c, jI_64, jL_32, jI_div, jL_div, jx, bnd, if_true, if_false, if_pos, if_neg, Int.toNat_natCast, Int.reduceToNat, Int.add_zero, Int.zero_add, Int.reduceAdd, Int.reduceSub, Int.reduceMul, Int.reduceNeg, Int.reduceLT, Int.reduceLE, jI_rem]; done) | (simp (disch := omega) only [jI_lit, jL_lit, jI_n, jI_add, jI_sub, jI_mul, jI_neg, jL_add, jL_sub, jL_mul, jL_neg, jI_lt, jI_le, jI_eq, jL_lt, jL_le, jL_eq, jI_c, jI_64, jL_32, jI_div, jL_div, jx, bnd, if_true, if_false, if_pos, if_neg, Int.toNat_natCast, Int.reduceToNat, Int.add_zero, Int.zero_add, Int.reduceAdd, Int.reduceSub, Int.reduceMul, Int.reduceNeg, Int.reduceLT, Int.reduceLE, jI_rem]; rfl) | rfl, by first | (simp (disch := omega) only [jI_lit, jL_lit, jI_n, jI_add, jI_sub, jI_mul, jI_neg, jL_add, jL_sub, jL_mul, jL_neg, jI_lt, jI_le, jI_eq, jL_lt, jL_le, jL_eq, jI_c, jI_64, jL_32, jI_div, jL_div, jx, bnd, if_true, if_false, if_pos, if_neg, Int.toNat_natCast, Int.reduceToNat, Int.add_zero, Int.zero_add, Int.reduceAdd, Int.reduceSub, Int.reduceMul, Int.reduceNeg, Int.reduceLT, Int.reduceLE, jI_rem]; done) | (simp (disch := omega) only [jI_lit, jL_lit, jI_n, jI_add, jI_sub, jI_mul, jI_neg, jL_add, jL_sub, jL_mul, jL_neg, jI_lt, jI_le, jI_eq, jL_lt, jL_le, jL_eq, jI_c, jI_64, jL_32, jI_div, jL_div, jx, bnd, if_true, if_false, if_pos, if_neg, Int.toNat_natCast, Int.reduceToNat, Int.add_zero, Int.zero_add, Int.reduceAdd, Int.reduceSub, Int.reduceMul, Int.reduceNeg, Int.reduceLT, Int.reduceLE, jI_rem]; rfl) | rfl⟩
          · by_cases c5 : (cutLen a i : Int) ≤ g
            · have e3 := m_lapN ok rm hi (jI (a.ld i)) g z 0 (by omega) (by omega) (by omega) (by omega) (by omega) (fun m h5 h6 => by omega) fu 0 (by omega) (by omega) (by unfold fu; omega)
              refine ⟨jI 0, by first | (simp (disch := omega) only [jI_lit, jL_lit, jI_n, jI_add, jI_sub, jI_mul, jI_neg, jL_add, jL_sub, jL_mul, jL_neg, jI_lt, jI_le, jI_eq, jL_lt, jL_le, jL_eq, jI_c, jI_64, jL_32, jI_div, jL_div, jx, bnd, if_true, if_false, if_pos, if_neg, Int.toNat_natCast, Int.reduceToNat, Int.add_zero, Int.zero_add, Int.reduceAdd, Int.reduceSub, Int.reduceMul, Int.reduceNeg, Int.reduceLT, Int.reduceLE, jI_rem]; done) | (simp (disch := omega) only [jI_lit, jL_lit, jI_n, jI_add, jI_sub, jI_mul, jI_neg, jL_add, jL_sub, jL_mul, jL_neg, jI_lt, jI_le, jI_eq, jL_lt, jL_le, jL_eq, jI_c, jI_64, jL_32, jI_div, jL_div, jx, bnd, if_true, if_false, if_pos, if_neg, Int.toNat_natCast, Int.reduceToNat, Int.add_zero, Int.zero_add, Int.reduceAdd, Int.reduceSub, Int.reduceMul, Int.reduceNeg, Int.reduceLT, Int.reduceLE, jI_rem]; rfl) | rfl, ?_⟩
              simp (disch := omega) only [jI_lit, jL_lit, jI_n, jI_add, jI_sub, jI_mul, jI_neg, jL_add, jL_sub, jL_mul, jL_neg, jI_lt, jI_le, jI_eq, jL_lt, jL_le, jL_eq, jI_c, jI_64, jL_32, jI_div, jL_div, jx, bnd, if_true, if_false, if_pos, if_neg, Int.toNat_natCast, Int.reduceToNat, Int.add_zero, Int.zero_add, Int.reduceAdd, Int.reduceSub, Int.reduceMul, Int.reduceNeg, Int.reduceLT, Int.reduceLE, jI_rem]; rw [e3]; rfl
            · have hG : 0 < (g : Int) - z := by omega
              have hdiv := Int.mul_ediv_add_emod ((cutLen a i : Int) - g + ((g : Int) - z) - 1) ((g : Int) - z)
              have hr0 := Int.emod_nonneg ((cutLen a i : Int) - g + ((g : Int) - z) - 1) (show (g : Int) - z ≠ 0 by omega)
              have hr1 := Int.emod_lt_of_pos ((cutLen a i : Int) - g + ((g : Int) - z) - 1) hG
              have hq0 : 0 ≤ ((cutLen a i : Int) - g + ((g : Int) - z) - 1) / ((g : Int) - z) := Int.ediv_nonneg (by omega) (by omega)
              have e0 : (jI (cutLen a i) - jI g + (jI g - (jL z).toInt32) - 1) / (jI g - (jL z).toInt32) = jI (((cutLen a i : Int) - g + ((g : Int) - z) - 1) / ((g : Int) - z)) := by simp (disch := omega) only [jI_lit, jL_lit, jI_n, jI_add, jI_sub, jI_mul, jI_neg, jL_add, jL_sub, jL_mul, jL_neg, jI_lt, jI_le, jI_eq, jL_lt, jL_le, jL_eq, jI_c, jI_64, jL_32, jI_div, jL_div, jx, bnd, if_true, if_false, if_pos, if_neg, Int.toNat_natCast, Int.reduceToNat, Int.add_zero, Int.zero_add, Int.reduceAdd, Int.reduceSub, Int.reduceMul, Int.reduceNeg, Int.reduceLT, Int.reduceLE, jI_rem]
              generalize ((cutLen a i : Int) - g + ((g : Int) - z) - 1) / ((g : Int) - z) = N at *
              rw [Int.mul_comm] at hdiv
              have e3 := m_lapN ok rm hi (jI (a.ld i)) g z N (by omega) (by omega) (by omega) hq0 (by omega) (fun m h5 h6 => by
                have h7 : m * ((g : Int) - z) ≤ (N - 1) * ((g : Int) - z) := Int.mul_le_mul_of_nonneg_right (by omega) (by omega)
                rw [Int.sub_mul] at h7
                omega) fu 0 (by omega) (by omega) (by
                have : N * 1 ≤ N * ((g : Int) - z) := Int.mul_le_mul_of_nonneg_left (by omega) hq0
                unfold fu; omega)
              refine ⟨jI N, ?_, ?_⟩
              · rw [← e0]; simp (disch := omega) only [jI_lit, jL_lit, jI_n, jI_add, jI_sub, jI_mul, jI_neg, jL_add, jL_sub, jL_mul, jL_neg, jI_lt, jI_le, jI_eq, jL_lt, jL_le, jL_eq, jI_c, jI_64, jL_32, jI_div, jL_div, jx, bnd, if_true, if_false, if_pos, if_neg, Int.toNat_natCast, Int.reduceToNat, Int.add_zero, Int.zero_add, Int.reduceAdd, Int.reduceSub, Int.reduceMul, Int.reduceNeg, Int.reduceLT, Int.reduceLE, jI_rem]
              · simp (disch := omega) only [jI_lit, jL_lit, jI_n, jI_add, jI_sub, jI_mul, jI_neg, jL_add, jL_sub, jL_mul, jL_neg, jI_lt, jI_le, jI_eq, jL_lt, jL_le, jL_eq, jI_c, jI_64, jL_32, jI_div, jL_div, jx, bnd, if_true, if_false, if_pos, if_neg, Int.toNat_natCast, Int.reduceToNat, Int.add_zero, Int.zero_add, Int.reduceAdd, Int.reduceSub, Int.reduceMul, Int.reduceNeg, Int.reduceLT, Int.reduceLE, jI_rem]; rw [e3]; rfl
        · have hk : a.kn (a.ld i) = 0 := by
            have := rc.fn (a.ld i - 4) (by omega) (Bool.eq_false_iff.mpr hF)
            rw [show a.ld i - 4 + 4 = a.ld i from by omega] at this
            exact this
          rw [if_neg hF, hk]
          simp only [gmax]
          refine ⟨_, by first | (simp (disch := omega) only [jI_lit, jL_lit, jI_n, jI_add, jI_sub, jI_mul, jI_neg, jL_add, jL_sub, jL_mul, jL_neg, jI_lt, jI_le, jI_eq, jL_lt, jL_le, jL_eq, jI_c, jI_64, jL_32, jI_div, jL_div, jx, bnd, if_true, if_false, if_pos, if_neg, Int.toNat_natCast, Int.reduceToNat, Int.add_zero, Int.zero_add, Int.reduceAdd, Int.reduceSub, Int.reduceMul, Int.reduceNeg, Int.reduceLT, Int.reduceLE, jI_rem]; done) | (simp (disch := omega) only [jI_lit, jL_lit, jI_n, jI_add, jI_sub, jI_mul, jI_neg, jL_add, jL_sub, jL_mul, jL_neg, jI_lt, jI_le, jI_eq, jL_lt, jL_le, jL_eq, jI_c, jI_64, jL_32, jI_div, jL_div, jx, bnd, if_true, if_false, if_pos, if_neg, Int.toNat_natCast, Int.reduceToNat, Int.add_zero, Int.zero_add, Int.reduceAdd, Int.reduceSub, Int.reduceMul, Int.reduceNeg, Int.reduceLT, Int.reduceLE, jI_rem]; rfl) | rfl, by first | (simp (disch := omega) only [jI_lit, jL_lit, jI_n, jI_add, jI_sub, jI_mul, jI_neg, jL_add, jL_sub, jL_mul, jL_neg, jI_lt, jI_le, jI_eq, jL_lt, jL_le, jL_eq, jI_c, jI_64, jL_32, jI_div, jL_div, jx, bnd, if_true, if_false, if_pos, if_neg, Int.toNat_natCast, Int.reduceToNat, Int.add_zero, Int.zero_add, Int.reduceAdd, Int.reduceSub, Int.reduceMul, Int.reduceNeg, Int.reduceLT, Int.reduceLE, jI_rem]; done) | (simp (disch := omega) only [jI_lit, jL_lit, jI_n, jI_add, jI_sub, jI_mul, jI_neg, jL_add, jL_sub, jL_mul, jL_neg, jI_lt, jI_le, jI_eq, jL_lt, jL_le, jL_eq, jI_c, jI_64, jL_32, jI_div, jL_div, jx, bnd, if_true, if_false, if_pos, if_neg, Int.toNat_natCast, Int.reduceToNat, Int.add_zero, Int.zero_add, Int.reduceAdd, Int.reduceSub, Int.reduceMul, Int.reduceNeg, Int.reduceLT, Int.reduceLE, jI_rem]; rfl) | rfl⟩
  · rw [h1, h2]
    exact ⟨-1, rfl, rfl⟩
end Lines
