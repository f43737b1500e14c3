def Keep3 (md m2 : MS) : Prop := (∀ k, k < 3 → m2.1 k = md.1 k) ∧ (∀ k, k < 9 → m2.2.1 k = md.2.1 k) ∧ (∀ k, k < 6 → m2.2.2 k = md.2.2 k)
theorem Keep3.rf (md : MS) : Keep3 md md := ⟨fun _ _ => rfl, fun _ _ => rfl, fun _ _ => rfl⟩
theorem Keep3.tr {a b c : MS} (h : Keep3 a b) (g : Keep3 b c) : Keep3 a c := ⟨fun k h1 => (g.1 k h1).trans (h.1 k h1), fun k h1 => (g.2.1 k h1).trans (h.2.1 k h1), fun k h1 => (g.2.2 k h1).trans (h.2.2 k h1)⟩
theorem RM.kept3 {a : Ab} {md m2 : MS} (h : RM a md) (k : Keep3 md m2) : RM a m2 := by
  have k1 := k.1
  have k2 := k.2.1
  have k3 := k.2.2
  refine ⟨?_, ?_, ?_, ?_, ?_, ?_, ?_, ?_, ?_, ?_, ?_, ?_, ?_, ?_, ?_, ?_, ?_, ?_⟩
  all_goals first
    | (rw [k1 _ (by omega)]; first | exact h.s0 | exact h.s1 | exact h.s2)
    | (rw [k2 _ (by omega)]; first | exact h.tx | exact h.lc | exact h.bn | exact h.sh | exact h.di | exact h.ma | exact h.pd | exact h.kn | exact h.km)
    | (rw [k3 _ (by omega)]; first | exact h.ru | exact h.lg | exact h.px | exact h.py | exact h.pz | exact h.kl)
abbrev Pc : Type := Nat × Nat
def kG (F : Nat) (pl p2 md m2 : MS) : Prop := ((∀ k, k ≠ 0 → p2.1 k = pl.1 k) ∧ (∀ k, k ≠ 0 → k ≠ 1 → p2.2.1 k = pl.2.1 k) ∧ (∀ k q, q < F → p2.2.1 k q = pl.2.1 k q)) ∧ ((∀ k, k ≠ 3 → m2.1 k = md.1 k) ∧ (∀ k, k ≠ 10 → m2.2.1 k = md.2.1 k) ∧ (∀ k, k ≠ 6 → m2.2.2 k = md.2.2 k))
theorem kG.rf (F : Nat) (pl md : MS) : kG F pl pl md md := ⟨⟨fun _ _ => rfl, fun _ _ _ => rfl, fun _ _ _ => rfl⟩, ⟨fun _ _ => rfl, fun _ _ => rfl, fun _ _ => rfl⟩⟩
theorem kG.tr {F : Nat} {pl p2 p3 md m2 m3 : MS} (h : kG F pl p2 md m2) (g : kG F p2 p3 m2 m3) : kG F pl p3 md m3 := ⟨⟨fun k a => (g.1.1 k a).trans (h.1.1 k a), fun k a b => (g.1.2.1 k a b).trans (h.1.2.1 k a b), fun k q a => (g.1.2.2 k q a).trans (h.1.2.2 k q a)⟩, ⟨fun k a => (g.2.1 k a).trans (h.2.1 k a), fun k a => (g.2.2.1 k a).trans (h.2.2.1 k a), fun k a => (g.2.2.2 k a).trans (h.2.2.2 k a)⟩⟩
theorem kG.k3 {F : Nat} {pl p2 md m2 : MS} (h : kG F pl p2 md m2) : Keep3 md m2 := ⟨fun k hk => h.2.1 k (by omega), fun k hk => h.2.2.1 k (by omega), fun k hk => h.2.2.2 k (by omega)⟩
def GP (F : Nat) (P : List Pc) (pl md : MS) : Prop := (pl.1 0 = jI (F + P.length : Nat)) ∧ (md.1 3 = jI P.length) ∧ (∀ (p : Nat) (x : Pc), P[p]? = some x → pl.2.1 0 (F + p) = jI x.1 ∧ pl.2.1 1 (F + p) = jI x.2 ∧ md.2.1 10 p = jI x.1 ∧ md.2.2 6 p = jL x.2)
theorem GP.n {F : Nat} {P : List Pc} {pl md : MS} (h9 : GP F P pl md) : pl.1 0 = jI (F + P.length : Nat) := h9.1
theorem GP.m {F : Nat} {P : List Pc} {pl md : MS} (h9 : GP F P pl md) : md.1 3 = jI P.length := h9.2.1
theorem GP.t {F : Nat} {P : List Pc} {pl md : MS} (h9 : GP F P pl md) : ∀ (p : Nat) (x : Pc), P[p]? = some x → pl.2.1 0 (F + p) = jI x.1 ∧ pl.2.1 1 (F + p) = jI x.2 ∧ md.2.1 10 p = jI x.1 ∧ md.2.2 6 p = jL x.2 := h9.2.2
theorem GP.mk {F : Nat} {P : List Pc} {pl md : MS} (u_n : pl.1 0 = jI (F + P.length : Nat)) (u_m : md.1 3 = jI P.length) (u_t : ∀ (p : Nat) (x : Pc), P[p]? = some x → pl.2.1 0 (F + p) = jI x.1 ∧ pl.2.1 1 (F + p) = jI x.2 ∧ md.2.1 10 p = jI x.1 ∧ md.2.2 6 p = jL x.2) : GP F P pl md := ⟨u_n, u_m, u_t⟩
section GA
variable {a : Ab} {nl : Nat} {nT : Nat → Nat} {LS TS : Nat → MS} {FP : Nat → Bool} {FS : Nat → MS} {bc sg tr tu ff pl lw md : MS} {F : Nat} {P : List Pc}
def shf (F : Nat) (P : List Pc) (k : Nat) (pl md : MS) : Prop := ∀ (p : Nat) (x : Pc), P[p]? = some x → (p < k → pl.2.1 0 (F + p) = jI x.1 ∧ pl.2.1 1 (F + p) = jI x.2 ∧ md.2.1 10 p = jI x.1 ∧ md.2.2 6 p = jL x.2) ∧ (k ≤ p → pl.2.1 0 (F + p + 1) = jI x.1 ∧ pl.2.1 1 (F + p + 1) = jI x.2 ∧ md.2.1 10 (p + 1) = jI x.1 ∧ md.2.2 6 (p + 1) = jL x.2)
theorem g_shift (ok : Ok a) {i : Nat} (hi : i < a.nl) (hF : F + P.length < 60) (hPb : ∀ x ∈ P, x.2 ≤ 120000) (y2 y1 y3 : Int32) : ∀ (n k : Nat) (pl md : MS), RM a md → k ≤ P.length → k < n → shf F P k pl md →
    ∃ k2 p2 m2, k2 ≤ k ∧ l_Pl_addPiece_16 n (jI F) y2 (jI (cutLen a i)) (jI ((F + k : Nat) : Int)) pl = some (jI ((F + k2 : Nat) : Int), p2) ∧ l_Md_findPieces_43 n y1 (jI i) y3 (jI k) md = some (jI k2, m2) ∧ shf F P k2 p2 m2 ∧ kG F pl p2 md m2 ∧ p2.1 = pl.1 ∧ m2.1 = md.1 := by
  intro n
  have hcb := x_cutb ok hi
  induction n with
  | zero => intro k pl md _ _ h; omega
  | succ n ih =>
    intro k pl md rm hk hn hs
    rw [l_Pl_addPiece_16, l_Md_findPieces_43]
    by_cases e : k = 0
    · subst e
      rw [if_pos (by simp (disch := omega) only [jI_lit, jL_lit, jI_n, jI_add, jI_sub, jI_mul, jI_neg, jL_add, jL_sub, jL_mul, jL_neg, jI_lt, jI_le, jI_eq, jL_lt, jL_le, jL_eq, jI_c, jI_64, jL_32, jI_div, jL_div, jx, bnd, if_true, if_false, if_pos, if_neg, Int.toNat_natCast, Int.reduceToNat, Int.add_zero, Int.zero_add, Int.reduceAdd, Int.reduceSub, Int.reduceMul, Int.reduceNeg, Int.reduceLT, Int.reduceLE, jI_rem, sI_1, sI_2, sA_1, sA_2, sA_3, sL_1, sL_2, sL_3, upd_a, updL_a, vaup_a, Nat.reduceEqDiff, Ab_sz, Ab_tx, Ab_ns, Ab_sn, Ab_sx, Ab_ru, Ab_nl, Ab_lsh, Ab_ld, Ab_lm, Ab_lg, Ab_pd, Ab_px, Ab_py, Ab_pz, Ab_kn, Ab_kl, Ab_km]; omega), if_pos (show jI ((0 : Nat) : Int) ≤ 0 by decide)]
      exact ⟨0, pl, md, Nat.le_refl _, rfl, rfl, hs, kG.rf F pl md, rfl, rfl⟩
    · have hk' : k - 1 < P.length := by omega
      have e0 := List.getElem?_eq_getElem hk'
      have q := (hs (k - 1) _ e0).1 (by omega)
      have hpb := hPb _ (List.mem_of_getElem? e0)
      have e1 : jI ((F + k : Nat) : Int) - 1 = jI ((F + (k - 1) : Nat) : Int) := by rw [show (1 : Int32) = jI 1 from rfl, jI_sub]; congr 1; omega
      have e2 : jI (k : Int) - 1 = jI ((k - 1 : Nat) : Int) := by rw [show (1 : Int32) = jI 1 from rfl, jI_sub]; congr 1; omega
      have e3 : jI ((F + k : Nat) : Int) + (-1) = jI ((F + (k - 1) : Nat) : Int) := by rw [show (-1 : Int32) = jI (-1) from rfl, jI_add]; congr 1; omega
      have e4 : jI (k : Int) + (-1) = jI ((k - 1 : Nat) : Int) := by rw [show (-1 : Int32) = jI (-1) from rfl, jI_add]; congr 1; omega
      have i1 : ix (jI ((F + (k - 1) : Nat) : Int)) 60 = true := jx (by omega) (by omega) (by omega)
      have i2 : ix (jI ((F + k : Nat) : Int)) 60 = true := jx (by omega) (by omega) (by omega)
      have i3 : ix (jI ((k - 1 : Nat) : Int)) 60 = true := jx (by omega) (by omega) (by omega)
      have i4 : ix (jI (k : Int)) 60 = true := jx (by omega) (by omega) (by omega)
      have c1 : (jI ((F + (k - 1) : Nat) : Int)).toNatClampNeg = F + (k - 1) := by rw [jI_c (by omega) (by omega)]; omega
      have c2 : (jI ((F + k : Nat) : Int)).toNatClampNeg = F + k := by rw [jI_c (by omega) (by omega)]; omega
      have c3 : (jI ((k - 1 : Nat) : Int)).toNatClampNeg = k - 1 := by rw [jI_c (by omega) (by omega)]; omega
      have c4 : (jI (k : Int)).toNatClampNeg = k := by rw [jI_c (by omega) (by omega)]; omega
      have n1 : ¬ jI ((F + k : Nat) : Int) ≤ jI F := by simp (disch := omega) only [jI_lit, jL_lit, jI_n, jI_add, jI_sub, jI_mul, jI_neg, jL_add, jL_sub, jL_mul, jL_neg, jI_lt, jI_le, jI_eq, jL_lt, jL_le, jL_eq, jI_c, jI_64, jL_32, jI_div, jL_div, jx, bnd, if_true, if_false, if_pos, if_neg, Int.toNat_natCast, Int.reduceToNat, Int.add_zero, Int.zero_add, Int.reduceAdd, Int.reduceSub, Int.reduceMul, Int.reduceNeg, Int.reduceLT, Int.reduceLE, jI_rem, sI_1, sI_2, sA_1, sA_2, sA_3, sL_1, sL_2, sL_3, upd_a, updL_a, vaup_a, Nat.reduceEqDiff, Ab_sz, Ab_tx, Ab_ns, Ab_sn, Ab_sx, Ab_ru, Ab_nl, Ab_lsh, Ab_ld, Ab_lm, Ab_lg, Ab_pd, Ab_px, Ab_py, Ab_pz, Ab_kn, Ab_kl, Ab_km]; omega
      have n2 : ¬ jI (k : Int) ≤ 0 := by simp (disch := omega) only [jI_lit, jL_lit, jI_n, jI_add, jI_sub, jI_mul, jI_neg, jL_add, jL_sub, jL_mul, jL_neg, jI_lt, jI_le, jI_eq, jL_lt, jL_le, jL_eq, jI_c, jI_64, jL_32, jI_div, jL_div, jx, bnd, if_true, if_false, if_pos, if_neg, Int.toNat_natCast, Int.reduceToNat, Int.add_zero, Int.zero_add, Int.reduceAdd, Int.reduceSub, Int.reduceMul, Int.reduceNeg, Int.reduceLT, Int.reduceLE, jI_rem, sI_1, sI_2, sA_1, sA_2, sA_3, sL_1, sL_2, sL_3, upd_a, updL_a, vaup_a, Nat.reduceEqDiff, Ab_sz, Ab_tx, Ab_ns, Ab_sn, Ab_sx, Ab_ru, Ab_nl, Ab_lsh, Ab_ld, Ab_lm, Ab_lg, Ab_pd, Ab_px, Ab_py, Ab_pz, Ab_kn, Ab_kl, Ab_km]; omega
      simp only [n1, n2, if_false, e1, e2, i1, i2, i3, i4, c1, c2, c3, c4, if_true, m_lengthOf ok rm hi, bnd, q.1, q.2.1, q.2.2.1, q.2.2.2, e3, e4, sA_2, sL_2, Nat.reduceEqDiff]
      by_cases c : cutLen a i ≤ (P[k - 1]).2
      · have n3 : jI (cutLen a i : Int) ≤ jI ((P[k - 1]).2) := by simp (disch := omega) only [jI_lit, jL_lit, jI_n, jI_add, jI_sub, jI_mul, jI_neg, jL_add, jL_sub, jL_mul, jL_neg, jI_lt, jI_le, jI_eq, jL_lt, jL_le, jL_eq, jI_c, jI_64, jL_32, jI_div, jL_div, jx, bnd, if_true, if_false, if_pos, if_neg, Int.toNat_natCast, Int.reduceToNat, Int.add_zero, Int.zero_add, Int.reduceAdd, Int.reduceSub, Int.reduceMul, Int.reduceNeg, Int.reduceLT, Int.reduceLE, jI_rem, sI_1, sI_2, sA_1, sA_2, sA_3, sL_1, sL_2, sL_3, upd_a, updL_a, vaup_a, Nat.reduceEqDiff, Ab_sz, Ab_tx, Ab_ns, Ab_sn, Ab_sx, Ab_ru, Ab_nl, Ab_lsh, Ab_ld, Ab_lm, Ab_lg, Ab_pd, Ab_px, Ab_py, Ab_pz, Ab_kn, Ab_kl, Ab_km]; omega
        have n4 : jL (cutLen a i : Int) ≤ jL ((P[k - 1]).2) := by simp (disch := omega) only [jI_lit, jL_lit, jI_n, jI_add, jI_sub, jI_mul, jI_neg, jL_add, jL_sub, jL_mul, jL_neg, jI_lt, jI_le, jI_eq, jL_lt, jL_le, jL_eq, jI_c, jI_64, jL_32, jI_div, jL_div, jx, bnd, if_true, if_false, if_pos, if_neg, Int.toNat_natCast, Int.reduceToNat, Int.add_zero, Int.zero_add, Int.reduceAdd, Int.reduceSub, Int.reduceMul, Int.reduceNeg, Int.reduceLT, Int.reduceLE, jI_rem, sI_1, sI_2, sA_1, sA_2, sA_3, sL_1, sL_2, sL_3, upd_a, updL_a, vaup_a, Nat.reduceEqDiff, Ab_sz, Ab_tx, Ab_ns, Ab_sn, Ab_sx, Ab_ru, Ab_nl, Ab_lsh, Ab_ld, Ab_lm, Ab_lg, Ab_pd, Ab_px, Ab_py, Ab_pz, Ab_kn, Ab_kl, Ab_km]; omega
        simp only [n3, n4, if_true]
        exact ⟨k, pl, md, Nat.le_refl _, rfl, rfl, hs, kG.rf F pl md, rfl, rfl⟩
      · have n3 : ¬ jI (cutLen a i : Int) ≤ jI ((P[k - 1]).2) := by simp (disch := omega) only [jI_lit, jL_lit, jI_n, jI_add, jI_sub, jI_mul, jI_neg, jL_add, jL_sub, jL_mul, jL_neg, jI_lt, jI_le, jI_eq, jL_lt, jL_le, jL_eq, jI_c, jI_64, jL_32, jI_div, jL_div, jx, bnd, if_true, if_false, if_pos, if_neg, Int.toNat_natCast, Int.reduceToNat, Int.add_zero, Int.zero_add, Int.reduceAdd, Int.reduceSub, Int.reduceMul, Int.reduceNeg, Int.reduceLT, Int.reduceLE, jI_rem, sI_1, sI_2, sA_1, sA_2, sA_3, sL_1, sL_2, sL_3, upd_a, updL_a, vaup_a, Nat.reduceEqDiff, Ab_sz, Ab_tx, Ab_ns, Ab_sn, Ab_sx, Ab_ru, Ab_nl, Ab_lsh, Ab_ld, Ab_lm, Ab_lg, Ab_pd, Ab_px, Ab_py, Ab_pz, Ab_kn, Ab_kl, Ab_km]; omega
        have n4 : ¬ jL (cutLen a i : Int) ≤ jL ((P[k - 1]).2) := by simp (disch := omega) only [jI_lit, jL_lit, jI_n, jI_add, jI_sub, jI_mul, jI_neg, jL_add, jL_sub, jL_mul, jL_neg, jI_lt, jI_le, jI_eq, jL_lt, jL_le, jL_eq, jI_c, jI_64, jL_32, jI_div, jL_div, jx, bnd, if_true, if_false, if_pos, if_neg, Int.toNat_natCast, Int.reduceToNat, Int.add_zero, Int.zero_add, Int.reduceAdd, Int.reduceSub, Int.reduceMul, Int.reduceNeg, Int.reduceLT, Int.reduceLE, jI_rem, sI_1, sI_2, sA_1, sA_2, sA_3, sL_1, sL_2, sL_3, upd_a, updL_a, vaup_a, Nat.reduceEqDiff, Ab_sz, Ab_tx, Ab_ns, Ab_sn, Ab_sx, Ab_ru, Ab_nl, Ab_lsh, Ab_ld, Ab_lm, Ab_lg, Ab_pd, Ab_px, Ab_py, Ab_pz, Ab_kn, Ab_kl, Ab_km]; omega
        simp only [n3, n4, if_false]
        have kg : kG F pl (sA (sA pl 0 (upd (pl.2.1 0) (F + k) (jI (P[k - 1]).1))) 1 (upd (pl.2.1 1) (F + k) (jI (P[k - 1]).2))) md (sA (sL md 6 (vp_updL (md.2.2 6) k (jL (P[k - 1]).2))) 10 (upd (md.2.1 10) k (jI (P[k - 1]).1))) := by
          refine ⟨⟨fun k hk => rfl, fun k h1 h2 => by simp (disch := omega) only [jI_lit, jL_lit, jI_n, jI_add, jI_sub, jI_mul, jI_neg, jL_add, jL_sub, jL_mul, jL_neg, jI_lt, jI_le, jI_eq, jL_lt, jL_le, jL_eq, jI_c, jI_64, jL_32, jI_div, jL_div, jx, bnd, if_true, if_false, if_pos, if_neg, Int.toNat_natCast, Int.reduceToNat, Int.add_zero, Int.zero_add, Int.reduceAdd, Int.reduceSub, Int.reduceMul, Int.reduceNeg, Int.reduceLT, Int.reduceLE, jI_rem, sI_1, sI_2, sA_1, sA_2, sA_3, sL_1, sL_2, sL_3, upd_a, updL_a, vaup_a, Nat.reduceEqDiff, Ab_sz, Ab_tx, Ab_ns, Ab_sn, Ab_sx, Ab_ru, Ab_nl, Ab_lsh, Ab_ld, Ab_lm, Ab_lg, Ab_pd, Ab_px, Ab_py, Ab_pz, Ab_kn, Ab_kl, Ab_km], fun j q hq => ?_⟩, ⟨fun k hk => rfl, fun k hk => by simp (disch := omega) only [jI_lit, jL_lit, jI_n, jI_add, jI_sub, jI_mul, jI_neg, jL_add, jL_sub, jL_mul, jL_neg, jI_lt, jI_le, jI_eq, jL_lt, jL_le, jL_eq, jI_c, jI_64, jL_32, jI_div, jL_div, jx, bnd, if_true, if_false, if_pos, if_neg, Int.toNat_natCast, Int.reduceToNat, Int.add_zero, Int.zero_add, Int.reduceAdd, Int.reduceSub, Int.reduceMul, Int.reduceNeg, Int.reduceLT, Int.reduceLE, jI_rem, sI_1, sI_2, sA_1, sA_2, sA_3, sL_1, sL_2, sL_3, upd_a, updL_a, vaup_a, Nat.reduceEqDiff, Ab_sz, Ab_tx, Ab_ns, Ab_sn, Ab_sx, Ab_ru, Ab_nl, Ab_lsh, Ab_ld, Ab_lm, Ab_lg, Ab_pd, Ab_px, Ab_py, Ab_pz, Ab_kn, Ab_kl, Ab_km], fun k hk => by simp (disch := omega) only [jI_lit, jL_lit, jI_n, jI_add, jI_sub, jI_mul, jI_neg, jL_add, jL_sub, jL_mul, jL_neg, jI_lt, jI_le, jI_eq, jL_lt, jL_le, jL_eq, jI_c, jI_64, jL_32, jI_div, jL_div, jx, bnd, if_true, if_false, if_pos, if_neg, Int.toNat_natCast, Int.reduceToNat, Int.add_zero, Int.zero_add, Int.reduceAdd, Int.reduceSub, Int.reduceMul, Int.reduceNeg, Int.reduceLT, Int.reduceLE, jI_rem, sI_1, sI_2, sA_1, sA_2, sA_3, sL_1, sL_2, sL_3, upd_a, updL_a, vaup_a, Nat.reduceEqDiff, Ab_sz, Ab_tx, Ab_ns, Ab_sn, Ab_sx, Ab_ru, Ab_nl, Ab_lsh, Ab_ld, Ab_lm, Ab_lg, Ab_pd, Ab_px, Ab_py, Ab_pz, Ab_kn, Ab_kl, Ab_km]⟩⟩
          by_cases j0 : j = 0
          · subst j0; simp (disch := omega) only [jI_lit, jL_lit, jI_n, jI_add, jI_sub, jI_mul, jI_neg, jL_add, jL_sub, jL_mul, jL_neg, jI_lt, jI_le, jI_eq, jL_lt, jL_le, jL_eq, jI_c, jI_64, jL_32, jI_div, jL_div, jx, bnd, if_true, if_false, if_pos, if_neg, Int.toNat_natCast, Int.reduceToNat, Int.add_zero, Int.zero_add, Int.reduceAdd, Int.reduceSub, Int.reduceMul, Int.reduceNeg, Int.reduceLT, Int.reduceLE, jI_rem, sI_1, sI_2, sA_1, sA_2, sA_3, sL_1, sL_2, sL_3, upd_a, updL_a, vaup_a, Nat.reduceEqDiff, Ab_sz, Ab_tx, Ab_ns, Ab_sn, Ab_sx, Ab_ru, Ab_nl, Ab_lsh, Ab_ld, Ab_lm, Ab_lg, Ab_pd, Ab_px, Ab_py, Ab_pz, Ab_kn, Ab_kl, Ab_km]
          · by_cases j1 : j = 1
            · subst j1; simp (disch := omega) only [jI_lit, jL_lit, jI_n, jI_add, jI_sub, jI_mul, jI_neg, jL_add, jL_sub, jL_mul, jL_neg, jI_lt, jI_le, jI_eq, jL_lt, jL_le, jL_eq, jI_c, jI_64, jL_32, jI_div, jL_div, jx, bnd, if_true, if_false, if_pos, if_neg, Int.toNat_natCast, Int.reduceToNat, Int.add_zero, Int.zero_add, Int.reduceAdd, Int.reduceSub, Int.reduceMul, Int.reduceNeg, Int.reduceLT, Int.reduceLE, jI_rem, sI_1, sI_2, sA_1, sA_2, sA_3, sL_1, sL_2, sL_3, upd_a, updL_a, vaup_a, Nat.reduceEqDiff, Ab_sz, Ab_tx, Ab_ns, Ab_sn, Ab_sx, Ab_ru, Ab_nl, Ab_lsh, Ab_ld, Ab_lm, Ab_lg, Ab_pd, Ab_px, Ab_py, Ab_pz, Ab_kn, Ab_kl, Ab_km]
            · simp (disch := omega) only [jI_lit, jL_lit, jI_n, jI_add, jI_sub, jI_mul, jI_neg, jL_add, jL_sub, jL_mul, jL_neg, jI_lt, jI_le, jI_eq, jL_lt, jL_le, jL_eq, jI_c, jI_64, jL_32, jI_div, jL_div, jx, bnd, if_true, if_false, if_pos, if_neg, Int.toNat_natCast, Int.reduceToNat, Int.add_zero, Int.zero_add, Int.reduceAdd, Int.reduceSub, Int.reduceMul, Int.reduceNeg, Int.reduceLT, Int.reduceLE, jI_rem, sI_1, sI_2, sA_1, sA_2, sA_3, sL_1, sL_2, sL_3, upd_a, updL_a, vaup_a, Nat.reduceEqDiff, Ab_sz, Ab_tx, Ab_ns, Ab_sn, Ab_sx, Ab_ru, Ab_nl, Ab_lsh, Ab_ld, Ab_lm, Ab_lg, Ab_pd, Ab_px, Ab_py, Ab_pz, Ab_kn, Ab_kl, Ab_km]
        obtain ⟨k2, p2, m2, h1, h2, h3, h4, h5, h6, h7⟩ := ih (k - 1) (sA (sA pl 0 (upd (pl.2.1 0) (F + k) (jI (P[k - 1]).1))) 1 (upd (pl.2.1 1) (F + k) (jI (P[k - 1]).2))) (sA (sL md 6 (vp_updL (md.2.2 6) k (jL (P[k - 1]).2))) 10 (upd (md.2.1 10) k (jI (P[k - 1]).1))) (rm.kept3 kg.k3) (by omega) (by omega) (fun p x hx => by
          refine ⟨fun hp => ?_, fun hp => ?_⟩
          · simp (disch := omega) only [jI_lit, jL_lit, jI_n, jI_add, jI_sub, jI_mul, jI_neg, jL_add, jL_sub, jL_mul, jL_neg, jI_lt, jI_le, jI_eq, jL_lt, jL_le, jL_eq, jI_c, jI_64, jL_32, jI_div, jL_div, jx, bnd, if_true, if_false, if_pos, if_neg, Int.toNat_natCast, Int.reduceToNat, Int.add_zero, Int.zero_add, Int.reduceAdd, Int.reduceSub, Int.reduceMul, Int.reduceNeg, Int.reduceLT, Int.reduceLE, jI_rem, sI_1, sI_2, sA_1, sA_2, sA_3, sL_1, sL_2, sL_3, upd_a, updL_a, vaup_a, Nat.reduceEqDiff, Ab_sz, Ab_tx, Ab_ns, Ab_sn, Ab_sx, Ab_ru, Ab_nl, Ab_lsh, Ab_ld, Ab_lm, Ab_lg, Ab_pd, Ab_px, Ab_py, Ab_pz, Ab_kn, Ab_kl, Ab_km]; exact (hs p x hx).1 (by omega)
          · by_cases ep : p = k - 1
            · subst ep
              rw [e0] at hx
              obtain rfl := Option.some.inj hx
              rw [show F + (k - 1) + 1 = F + k from by omega, show k - 1 + 1 = k from by omega]
              simp (disch := omega) only [jI_lit, jL_lit, jI_n, jI_add, jI_sub, jI_mul, jI_neg, jL_add, jL_sub, jL_mul, jL_neg, jI_lt, jI_le, jI_eq, jL_lt, jL_le, jL_eq, jI_c, jI_64, jL_32, jI_div, jL_div, jx, bnd, if_true, if_false, if_pos, if_neg, Int.toNat_natCast, Int.reduceToNat, Int.add_zero, Int.zero_add, Int.reduceAdd, Int.reduceSub, Int.reduceMul, Int.reduceNeg, Int.reduceLT, Int.reduceLE, jI_rem, sI_1, sI_2, sA_1, sA_2, sA_3, sL_1, sL_2, sL_3, upd_a, updL_a, vaup_a, Nat.reduceEqDiff, Ab_sz, Ab_tx, Ab_ns, Ab_sn, Ab_sx, Ab_ru, Ab_nl, Ab_lsh, Ab_ld, Ab_lm, Ab_lg, Ab_pd, Ab_px, Ab_py, Ab_pz, Ab_kn, Ab_kl, Ab_km]; simp
            · simp (disch := omega) only [jI_lit, jL_lit, jI_n, jI_add, jI_sub, jI_mul, jI_neg, jL_add, jL_sub, jL_mul, jL_neg, jI_lt, jI_le, jI_eq, jL_lt, jL_le, jL_eq, jI_c, jI_64, jL_32, jI_div, jL_div, jx, bnd, if_true, if_false, if_pos, if_neg, Int.toNat_natCast, Int.reduceToNat, Int.add_zero, Int.zero_add, Int.reduceAdd, Int.reduceSub, Int.reduceMul, Int.reduceNeg, Int.reduceLT, Int.reduceLE, jI_rem, sI_1, sI_2, sA_1, sA_2, sA_3, sL_1, sL_2, sL_3, upd_a, updL_a, vaup_a, Nat.reduceEqDiff, Ab_sz, Ab_tx, Ab_ns, Ab_sn, Ab_sx, Ab_ru, Ab_nl, Ab_lsh, Ab_ld, Ab_lm, Ab_lg, Ab_pd, Ab_px, Ab_py, Ab_pz, Ab_kn, Ab_kl, Ab_km]; exact (hs p x hx).2 (by omega))
        exact ⟨k2, p2, m2, by omega, h2, h3, h4, kg.tr h5, h6, h7⟩
theorem g_add (ok : Ok a) {i : Nat} (hi : i < a.nl) (rm : RM a md) (hF : F + P.length < 60) (hPb : ∀ x ∈ P, x.2 ≤ 120000) (gp : GP F P pl md) (y1 y3 : Int32) :
    ∃ k p2 m2 m3, k ≤ P.length ∧ f_Pl_addPiece pl (jI F) (jI i) (jI (cutLen a i)) = some ((), p2) ∧ l_Md_findPieces_43 fu y1 (jI i) y3 (md.1 3) md = some (jI k, m2) ∧ f_Md_lengthOf m2 (jI i) = some (jL (cutLen a i)) ∧ m3 = sI (sA (sL m2 6 (vp_updL (m2.2.2 6) k (jL (cutLen a i)))) 10 (upd (m2.2.1 10) k (jI i))) 3 (jI ((P.length + 1 : Nat) : Int)) ∧ m2.1 3 = jI P.length ∧ GP F (P.take k ++ (i, cutLen a i) :: P.drop k) p2 m3 ∧ kG F pl p2 md m3 := by
  have hs0 : shf F P P.length pl md := fun p x hx => ⟨fun _ => gp.t p x hx, fun h => by have := (List.getElem?_eq_some_iff.mp hx).1; omega⟩
  obtain ⟨k, p2, m2, h1, h2, h3, h4, h5, h6, h7⟩ := g_shift ok hi hF hPb (jI i) y1 y3 fu P.length pl md rm (Nat.le_refl _) (by unfold fu; omega) hs0
  have hm2 : m2.1 3 = jI P.length := by rw [h7]; exact gp.m
  have rm2 := rm.kept3 h5.k3
  refine ⟨k, sI (sA (sA p2 0 (upd (p2.2.1 0) (F + k) (jI i))) 1 (upd (p2.2.1 1) (F + k) (jI (cutLen a i)))) 0 (jI ((F + P.length + 1 : Nat) : Int)), m2, _, h1, ?_, ?_, m_lengthOf ok rm2 hi, rfl, hm2, ?_, ?_⟩
  · unfold f_Pl_addPiece
    rw [gp.n, if_pos (by simp (disch := omega) only [jI_lit, jL_lit, jI_n, jI_add, jI_sub, jI_mul, jI_neg, jL_add, jL_sub, jL_mul, jL_neg, jI_lt, jI_le, jI_eq, jL_lt, jL_le, jL_eq, jI_c, jI_64, jL_32, jI_div, jL_div, jx, bnd, if_true, if_false, if_pos, if_neg, Int.toNat_natCast, Int.reduceToNat, Int.add_zero, Int.zero_add, Int.reduceAdd, Int.reduceSub, Int.reduceMul, Int.reduceNeg, Int.reduceLT, Int.reduceLE, jI_rem, sI_1, sI_2, sA_1, sA_2, sA_3, sL_1, sL_2, sL_3, upd_a, updL_a, vaup_a, Nat.reduceEqDiff, Ab_sz, Ab_tx, Ab_ns, Ab_sn, Ab_sx, Ab_ru, Ab_nl, Ab_lsh, Ab_ld, Ab_lm, Ab_lg, Ab_pd, Ab_px, Ab_py, Ab_pz, Ab_kn, Ab_kl, Ab_km]; omega)]
    simp only [bnd]
    rw [h2]
    have i1 : ix (jI ((F + k : Nat) : Int)) 60 = true := jx (by omega) (by omega) (by omega)
    have c1 : (jI ((F + k : Nat) : Int)).toNatClampNeg = F + k := by rw [jI_c (by omega) (by omega)]; omega
    have e1 : p2.1 0 = jI ((F + P.length : Nat) : Int) := by rw [h6]; exact gp.n
    simp only [bnd, i1, c1, if_true, sA_1, sA_2, e1, Nat.reduceEqDiff, if_false]
    rw [show jI ((F + P.length : Nat) : Int) + 1 = jI ((F + P.length + 1 : Nat) : Int) from jI_add _ 1]
  · rw [gp.m]; exact h3
  · have hlen : (P.take k ++ (i, cutLen a i) :: P.drop k).length = P.length + 1 := by
      rw [List.length_append, List.length_cons, List.length_take, List.length_drop]; omega
    refine ⟨by rw [hlen]; simp (disch := omega) only [jI_lit, jL_lit, jI_n, jI_add, jI_sub, jI_mul, jI_neg, jL_add, jL_sub, jL_mul, jL_neg, jI_lt, jI_le, jI_eq, jL_lt, jL_le, jL_eq, jI_c, jI_64, jL_32, jI_div, jL_div, jx, bnd, if_true, if_false, if_pos, if_neg, Int.toNat_natCast, Int.reduceToNat, Int.add_zero, Int.zero_add, Int.reduceAdd, Int.reduceSub, Int.reduceMul, Int.reduceNeg, Int.reduceLT, Int.reduceLE, jI_rem, sI_1, sI_2, sA_1, sA_2, sA_3, sL_1, sL_2, sL_3, upd_a, updL_a, vaup_a, Nat.reduceEqDiff, Ab_sz, Ab_tx, Ab_ns, Ab_sn, Ab_sx, Ab_ru, Ab_nl, Ab_lsh, Ab_ld, Ab_lm, Ab_lg, Ab_pd, Ab_px, Ab_py, Ab_pz, Ab_kn, Ab_kl, Ab_km]; rfl, by rw [hlen]; simp (disch := omega) only [jI_lit, jL_lit, jI_n, jI_add, jI_sub, jI_mul, jI_neg, jL_add, jL_sub, jL_mul, jL_neg, jI_lt, jI_le, jI_eq, jL_lt, jL_le, jL_eq, jI_c, jI_64, jL_32, jI_div, jL_div, jx, bnd, if_true, if_false, if_pos, if_neg, Int.toNat_natCast, Int.reduceToNat, Int.add_zero, Int.zero_add, Int.reduceAdd, Int.reduceSub, Int.reduceMul, Int.reduceNeg, Int.reduceLT, Int.reduceLE, jI_rem, sI_1, sI_2, sA_1, sA_2, sA_3, sL_1, sL_2, sL_3, upd_a, updL_a, vaup_a, Nat.reduceEqDiff, Ab_sz, Ab_tx, Ab_ns, Ab_sn, Ab_sx, Ab_ru, Ab_nl, Ab_lsh, Ab_ld, Ab_lm, Ab_lg, Ab_pd, Ab_px, Ab_py, Ab_pz, Ab_kn, Ab_kl, Ab_km], fun p x hx => ?_⟩
    by_cases c1 : p < k
    · rw [List.getElem?_append_left (by rw [List.length_take]; omega), List.getElem?_take_of_lt c1] at hx
      simp (disch := omega) only [jI_lit, jL_lit, jI_n, jI_add, jI_sub, jI_mul, jI_neg, jL_add, jL_sub, jL_mul, jL_neg, jI_lt, jI_le, jI_eq, jL_lt, jL_le, jL_eq, jI_c, jI_64, jL_32, jI_div, jL_div, jx, bnd, if_true, if_false, if_pos, if_neg, Int.toNat_natCast, Int.reduceToNat, Int.add_zero, Int.zero_add, Int.reduceAdd, Int.reduceSub, Int.reduceMul, Int.reduceNeg, Int.reduceLT, Int.reduceLE, jI_rem, sI_1, sI_2, sA_1, sA_2, sA_3, sL_1, sL_2, sL_3, upd_a, updL_a, vaup_a, Nat.reduceEqDiff, Ab_sz, Ab_tx, Ab_ns, Ab_sn, Ab_sx, Ab_ru, Ab_nl, Ab_lsh, Ab_ld, Ab_lm, Ab_lg, Ab_pd, Ab_px, Ab_py, Ab_pz, Ab_kn, Ab_kl, Ab_km]; exact (h4 p x hx).1 c1
    · have htl : (P.take k).length = k := by rw [List.length_take]; omega
      rw [List.getElem?_append_right (by omega), htl] at hx
      by_cases c2 : p = k
      · subst c2
        rw [Nat.sub_self] at hx
        simp at hx
        subst hx
        simp (disch := omega) only [jI_lit, jL_lit, jI_n, jI_add, jI_sub, jI_mul, jI_neg, jL_add, jL_sub, jL_mul, jL_neg, jI_lt, jI_le, jI_eq, jL_lt, jL_le, jL_eq, jI_c, jI_64, jL_32, jI_div, jL_div, jx, bnd, if_true, if_false, if_pos, if_neg, Int.toNat_natCast, Int.reduceToNat, Int.add_zero, Int.zero_add, Int.reduceAdd, Int.reduceSub, Int.reduceMul, Int.reduceNeg, Int.reduceLT, Int.reduceLE, jI_rem, sI_1, sI_2, sA_1, sA_2, sA_3, sL_1, sL_2, sL_3, upd_a, updL_a, vaup_a, Nat.reduceEqDiff, Ab_sz, Ab_tx, Ab_ns, Ab_sn, Ab_sx, Ab_ru, Ab_nl, Ab_lsh, Ab_ld, Ab_lm, Ab_lg, Ab_pd, Ab_px, Ab_py, Ab_pz, Ab_kn, Ab_kl, Ab_km]; simp
      · rw [show p - k = (p - k - 1) + 1 from by omega, List.getElem?_cons_succ, List.getElem?_drop, show k + (p - k - 1) = p - 1 from by omega] at hx
        have := (h4 (p - 1) x hx).2 (by omega)
        rw [show F + (p - 1) + 1 = F + p from by omega, show p - 1 + 1 = p from by omega] at this
        simp (disch := omega) only [jI_lit, jL_lit, jI_n, jI_add, jI_sub, jI_mul, jI_neg, jL_add, jL_sub, jL_mul, jL_neg, jI_lt, jI_le, jI_eq, jL_lt, jL_le, jL_eq, jI_c, jI_64, jL_32, jI_div, jL_div, jx, bnd, if_true, if_false, if_pos, if_neg, Int.toNat_natCast, Int.reduceToNat, Int.add_zero, Int.zero_add, Int.reduceAdd, Int.reduceSub, Int.reduceMul, Int.reduceNeg, Int.reduceLT, Int.reduceLE, jI_rem, sI_1, sI_2, sA_1, sA_2, sA_3, sL_1, sL_2, sL_3, upd_a, updL_a, vaup_a, Nat.reduceEqDiff, Ab_sz, Ab_tx, Ab_ns, Ab_sn, Ab_sx, Ab_ru, Ab_nl, Ab_lsh, Ab_ld, Ab_lm, Ab_lg, Ab_pd, Ab_px, Ab_py, Ab_pz, Ab_kn, Ab_kl, Ab_km]; exact this
  · refine h5.tr ⟨⟨fun j hj => by simp (disch := omega) only [jI_lit, jL_lit, jI_n, jI_add, jI_sub, jI_mul, jI_neg, jL_add, jL_sub, jL_mul, jL_neg, jI_lt, jI_le, jI_eq, jL_lt, jL_le, jL_eq, jI_c, jI_64, jL_32, jI_div, jL_div, jx, bnd, if_true, if_false, if_pos, if_neg, Int.toNat_natCast, Int.reduceToNat, Int.add_zero, Int.zero_add, Int.reduceAdd, Int.reduceSub, Int.reduceMul, Int.reduceNeg, Int.reduceLT, Int.reduceLE, jI_rem, sI_1, sI_2, sA_1, sA_2, sA_3, sL_1, sL_2, sL_3, upd_a, updL_a, vaup_a, Nat.reduceEqDiff, Ab_sz, Ab_tx, Ab_ns, Ab_sn, Ab_sx, Ab_ru, Ab_nl, Ab_lsh, Ab_ld, Ab_lm, Ab_lg, Ab_pd, Ab_px, Ab_py, Ab_pz, Ab_kn, Ab_kl, Ab_km], fun j h1 h2 => by simp (disch := omega) only [jI_lit, jL_lit, jI_n, jI_add, jI_sub, jI_mul, jI_neg, jL_add, jL_sub, jL_mul, jL_neg, jI_lt, jI_le, jI_eq, jL_lt, jL_le, jL_eq, jI_c, jI_64, jL_32, jI_div, jL_div, jx, bnd, if_true, if_false, if_pos, if_neg, Int.toNat_natCast, Int.reduceToNat, Int.add_zero, Int.zero_add, Int.reduceAdd, Int.reduceSub, Int.reduceMul, Int.reduceNeg, Int.reduceLT, Int.reduceLE, jI_rem, sI_1, sI_2, sA_1, sA_2, sA_3, sL_1, sL_2, sL_3, upd_a, updL_a, vaup_a, Nat.reduceEqDiff, Ab_sz, Ab_tx, Ab_ns, Ab_sn, Ab_sx, Ab_ru, Ab_nl, Ab_lsh, Ab_ld, Ab_lm, Ab_lg, Ab_pd, Ab_px, Ab_py, Ab_pz, Ab_kn, Ab_kl, Ab_km], fun j q hq => ?_⟩, ⟨fun j hj => by simp (disch := omega) only [jI_lit, jL_lit, jI_n, jI_add, jI_sub, jI_mul, jI_neg, jL_add, jL_sub, jL_mul, jL_neg, jI_lt, jI_le, jI_eq, jL_lt, jL_le, jL_eq, jI_c, jI_64, jL_32, jI_div, jL_div, jx, bnd, if_true, if_false, if_pos, if_neg, Int.toNat_natCast, Int.reduceToNat, Int.add_zero, Int.zero_add, Int.reduceAdd, Int.reduceSub, Int.reduceMul, Int.reduceNeg, Int.reduceLT, Int.reduceLE, jI_rem, sI_1, sI_2, sA_1, sA_2, sA_3, sL_1, sL_2, sL_3, upd_a, updL_a, vaup_a, Nat.reduceEqDiff, Ab_sz, Ab_tx, Ab_ns, Ab_sn, Ab_sx, Ab_ru, Ab_nl, Ab_lsh, Ab_ld, Ab_lm, Ab_lg, Ab_pd, Ab_px, Ab_py, Ab_pz, Ab_kn, Ab_kl, Ab_km], fun j hj => by simp (disch := omega) only [jI_lit, jL_lit, jI_n, jI_add, jI_sub, jI_mul, jI_neg, jL_add, jL_sub, jL_mul, jL_neg, jI_lt, jI_le, jI_eq, jL_lt, jL_le, jL_eq, jI_c, jI_64, jL_32, jI_div, jL_div, jx, bnd, if_true, if_false, if_pos, if_neg, Int.toNat_natCast, Int.reduceToNat, Int.add_zero, Int.zero_add, Int.reduceAdd, Int.reduceSub, Int.reduceMul, Int.reduceNeg, Int.reduceLT, Int.reduceLE, jI_rem, sI_1, sI_2, sA_1, sA_2, sA_3, sL_1, sL_2, sL_3, upd_a, updL_a, vaup_a, Nat.reduceEqDiff, Ab_sz, Ab_tx, Ab_ns, Ab_sn, Ab_sx, Ab_ru, Ab_nl, Ab_lsh, Ab_ld, Ab_lm, Ab_lg, Ab_pd, Ab_px, Ab_py, Ab_pz, Ab_kn, Ab_kl, Ab_km], fun j hj => by simp (disch := omega) only [jI_lit, jL_lit, jI_n, jI_add, jI_sub, jI_mul, jI_neg, jL_add, jL_sub, jL_mul, jL_neg, jI_lt, jI_le, jI_eq, jL_lt, jL_le, jL_eq, jI_c, jI_64, jL_32, jI_div, jL_div, jx, bnd, if_true, if_false, if_pos, if_neg, Int.toNat_natCast, Int.reduceToNat, Int.add_zero, Int.zero_add, Int.reduceAdd, Int.reduceSub, Int.reduceMul, Int.reduceNeg, Int.reduceLT, Int.reduceLE, jI_rem, sI_1, sI_2, sA_1, sA_2, sA_3, sL_1, sL_2, sL_3, upd_a, updL_a, vaup_a, Nat.reduceEqDiff, Ab_sz, Ab_tx, Ab_ns, Ab_sn, Ab_sx, Ab_ru, Ab_nl, Ab_lsh, Ab_ld, Ab_lm, Ab_lg, Ab_pd, Ab_px, Ab_py, Ab_pz, Ab_kn, Ab_kl, Ab_km]⟩⟩
    by_cases j0 : j = 0
    · subst j0; simp (disch := omega) only [jI_lit, jL_lit, jI_n, jI_add, jI_sub, jI_mul, jI_neg, jL_add, jL_sub, jL_mul, jL_neg, jI_lt, jI_le, jI_eq, jL_lt, jL_le, jL_eq, jI_c, jI_64, jL_32, jI_div, jL_div, jx, bnd, if_true, if_false, if_pos, if_neg, Int.toNat_natCast, Int.reduceToNat, Int.add_zero, Int.zero_add, Int.reduceAdd, Int.reduceSub, Int.reduceMul, Int.reduceNeg, Int.reduceLT, Int.reduceLE, jI_rem, sI_1, sI_2, sA_1, sA_2, sA_3, sL_1, sL_2, sL_3, upd_a, updL_a, vaup_a, Nat.reduceEqDiff, Ab_sz, Ab_tx, Ab_ns, Ab_sn, Ab_sx, Ab_ru, Ab_nl, Ab_lsh, Ab_ld, Ab_lm, Ab_lg, Ab_pd, Ab_px, Ab_py, Ab_pz, Ab_kn, Ab_kl, Ab_km]
    · by_cases j1 : j = 1
      · subst j1; simp (disch := omega) only [jI_lit, jL_lit, jI_n, jI_add, jI_sub, jI_mul, jI_neg, jL_add, jL_sub, jL_mul, jL_neg, jI_lt, jI_le, jI_eq, jL_lt, jL_le, jL_eq, jI_c, jI_64, jL_32, jI_div, jL_div, jx, bnd, if_true, if_false, if_pos, if_neg, Int.toNat_natCast, Int.reduceToNat, Int.add_zero, Int.zero_add, Int.reduceAdd, Int.reduceSub, Int.reduceMul, Int.reduceNeg, Int.reduceLT, Int.reduceLE, jI_rem, sI_1, sI_2, sA_1, sA_2, sA_3, sL_1, sL_2, sL_3, upd_a, updL_a, vaup_a, Nat.reduceEqDiff, Ab_sz, Ab_tx, Ab_ns, Ab_sn, Ab_sx, Ab_ru, Ab_nl, Ab_lsh, Ab_ld, Ab_lm, Ab_lg, Ab_pd, Ab_px, Ab_py, Ab_pz, Ab_kn, Ab_kl, Ab_km]
      · simp (disch := omega) only [jI_lit, jL_lit, jI_n, jI_add, jI_sub, jI_mul, jI_neg, jL_add, jL_sub, jL_mul, jL_neg, jI_lt, jI_le, jI_eq, jL_lt, jL_le, jL_eq, jI_c, jI_64, jL_32, jI_div, jL_div, jx, bnd, if_true, if_false, if_pos, if_neg, Int.toNat_natCast, Int.reduceToNat, Int.add_zero, Int.zero_add, Int.reduceAdd, Int.reduceSub, Int.reduceMul, Int.reduceNeg, Int.reduceLT, Int.reduceLE, jI_rem, sI_1, sI_2, sA_1, sA_2, sA_3, sL_1, sL_2, sL_3, upd_a, updL_a, vaup_a, Nat.reduceEqDiff, Ab_sz, Ab_tx, Ab_ns, Ab_sn, Ab_sx, Ab_ru, Ab_nl, Ab_lsh, Ab_ld, Ab_lm, Ab_lg, Ab_pd, Ab_px, Ab_py, Ab_pz, Ab_kn, Ab_kl, Ab_km]
end GA
def sumL (f : Nat → Nat) (p : Nat → Bool) : Nat → Nat
  | 0 => 0
  | n + 1 => sumL f p n + (if p n then f n else 0)
theorem sumL_b {f : Nat → Nat} {p : Nat → Bool} {m : Nat} : ∀ n, (∀ i, i < n → f i ≤ m) → sumL f p n ≤ n * m := by
  intro n
  induction n with
  | zero => intro _; simp [sumL]
  | succ n ih =>
    intro h
    have h1 := ih (fun i hi => h i (by omega))
    have h2 := h n (by omega)
    simp only [sumL]; rw [Nat.succ_mul]; split <;> omega
theorem sumL_le {f : Nat → Nat} {p : Nat → Bool} : ∀ n m, n ≤ m → sumL f p n ≤ sumL f p m := by
  intro n m h
  induction m with
  | zero => have : n = 0 := by omega
            subst this; exact Nat.le_refl _
  | succ m ih =>
    by_cases e : n = m + 1
    · subst e; exact Nat.le_refl _
    · have := ih (by omega)
      simp only [sumL]; omega
theorem sumL_add {f : Nat → Nat} {p q r : Nat → Bool} (h : ∀ i, r i = (p i || q i)) (h2 : ∀ i, ¬ (p i = true ∧ q i = true)) : ∀ n, sumL f r n = sumL f p n + sumL f q n := by
  intro n
  induction n with
  | zero => rfl
  | succ n ih =>
    simp only [sumL]; rw [ih, h n]
    have := h2 n
    cases hp : p n <;> cases hq : q n <;> simp_all <;> omega
def psum (P : List Pc) : Nat := (P.map (·.2)).sum
theorem psum_ins (P : List Pc) (k : Nat) (x : Pc) : psum (P.take k ++ x :: P.drop k) = psum P + x.2 := by
  unfold psum
  rw [List.map_append, List.sum_append, List.map_cons, List.sum_cons]
  have : (P.map (·.2)).sum = ((P.take k).map (·.2)).sum + ((P.drop k).map (·.2)).sum := by
    rw [← List.sum_append, ← List.map_append, List.take_append_drop]
  omega
section GA
variable {a : Ab} {nl : Nat} {nT : Nat → Nat} {LS TS : Nat → MS} {FP : Nat → Bool} {FS : Nat → MS} {bc sg tr tu ff pl lw md : MS} {F : Nat} {P : List Pc}
theorem g_many (ok : Ok a) (rc : RC a nl nT LS TS FP FS bc sg) {i : Nat} (hi : i < a.nl) {d : Nat} (hd : a.ld i = d) : ∀ (n j : Nat) (P : List Pc) (pl md : MS), RM a md → j ≤ a.lm i → a.lm i - j < n → F + P.length + (a.lm i - j) ≤ 60 → (∀ x ∈ P, x.2 ≤ 120000 ∧ x.1 < a.nl) → GP F P pl md →
    ∃ v w P2 p2 m2, l_Bc_gatherPieces_45 n (jI d) (jI F) (jI i) (jI (cutLen a i)) (jI j) nl nT LS TS FP FS i bc sg tr tu ff pl lw = some (v, bc, sg, tr, tu, ff, p2, lw) ∧ l_Md_findPieces_17 n (jI d) (jI i) (jI j) md = some (w, m2) ∧ GP F P2 p2 m2 ∧ kG F pl p2 md m2 ∧ P2.length = P.length + (a.lm i - j) ∧ psum P2 = psum P + (a.lm i - j) * cutLen a i ∧ (∀ x ∈ P2, x.2 ≤ 120000 ∧ x.1 < a.nl) := by
  intro n
  have hlm := ok.lm i hi
  have hn12 := ok.nl
  have hdd := ok.ld i hi
  induction n with
  | zero => intro j P pl md _ _ h; omega
  | succ n ih =>
    intro j P pl md rm hj hn hF hP gp
    have i1 : ix (jI (i : Int)) 12 = true := jx (by omega) (by omega) (by omega)
    have c1 : (jI (i : Int)).toNatClampNeg = i := by rw [jI_c (by omega) (by omega)]; omega
    rw [l_Bc_gatherPieces_45, l_Md_findPieces_17, (rc.ls i hi).ma]
    simp only [i1, c1, if_true, rm.ma i hi, rm.di i hi, hd]
    by_cases e : j = a.lm i
    · subst e
      simp only [show jI (a.lm i : Int) ≤ jI (a.lm i) from Int32.le_refl _, if_true]
      exact ⟨_, _, P, pl, md, rfl, rfl, gp, kG.rf F pl md, by omega, by simp, hP⟩
    · have nle : ¬ jI (a.lm i : Int) ≤ jI j := by simp (disch := omega) only [jI_lit, jL_lit, jI_n, jI_add, jI_sub, jI_mul, jI_neg, jL_add, jL_sub, jL_mul, jL_neg, jI_lt, jI_le, jI_eq, jL_lt, jL_le, jL_eq, jI_c, jI_64, jL_32, jI_div, jL_div, jx, bnd, if_true, if_false, if_pos, if_neg, Int.toNat_natCast, Int.reduceToNat, Int.add_zero, Int.zero_add, Int.reduceAdd, Int.reduceSub, Int.reduceMul, Int.reduceNeg, Int.reduceLT, Int.reduceLE, jI_rem, sI_1, sI_2, sA_1, sA_2, sA_3, sL_1, sL_2, sL_3, upd_a, updL_a, vaup_a, Nat.reduceEqDiff, Ab_sz, Ab_tx, Ab_ns, Ab_sn, Ab_sx, Ab_ru, Ab_nl, Ab_lsh, Ab_ld, Ab_lm, Ab_lg, Ab_pd, Ab_px, Ab_py, Ab_pz, Ab_kn, Ab_kl, Ab_km]; omega
      simp only [nle, if_false]
      obtain ⟨k, p2, m2, m3, h1, h2, h3, h4, h5, h6, h7, h8⟩ := g_add ok hi rm (by omega) (fun x hx => (hP x hx).1) gp (jI d) (jI j)
      have hlen : (P.take k ++ (i, cutLen a i) :: P.drop k).length = P.length + 1 := by
        rw [List.length_append, List.length_cons, List.length_take, List.length_drop]; omega
      obtain ⟨v, w, P2, p3, m4, g1, g2, g3, g4, g5, g6, g7⟩ := ih (j + 1) _ p2 m3 (rm.kept3 h8.k3) (by omega) (by omega) (by rw [hlen]; omega) (fun x hx => by
        rcases List.mem_append.mp hx with hx | hx
        · exact hP x (List.mem_of_mem_take hx)
        · rcases List.mem_cons.mp hx with hx | hx
          · subst hx; exact ⟨x_cutb ok hi, hi⟩
          · exact hP x (List.mem_of_mem_drop hx)) h7
      refine ⟨v, w, P2, p3, m4, ?_, ?_, g3, h8.tr g4, ?_, ?_, g7⟩
      · rw [h2]
        simp only [bnd]
        rw [show jI (j : Int) + 1 = jI ((j + 1 : Nat) : Int) from jI_add _ 1]
        exact g1
      · rw [show (some (md.1 3) : Option Int32).bind = fun f => f (md.1 3) from rfl]
        simp only
        rw [h3]
        simp only [bnd]
        rw [h4]
        have i2 : ix (jI (k : Int)) 60 = true := jx (by omega) (by omega) (by omega)
        have c2 : (jI (k : Int)).toNatClampNeg = k := by rw [jI_c (by omega) (by omega)]; omega
        simp only [bnd, i2, c2, if_true, sL_2, sA_1, sL_1, h6, Nat.reduceEqDiff, if_false]
        rw [show jI (P.length : Int) + 1 = jI ((P.length + 1 : Nat) : Int) from jI_add _ 1, show jI (j : Int) + 1 = jI ((j + 1 : Nat) : Int) from jI_add _ 1, ← h5]
        exact g2
      · rw [g5, hlen]; omega
      · rw [g6, psum_ins]
        have : (a.lm i - j) = (a.lm i - (j + 1)) + 1 := by omega
        rw [this, Nat.succ_mul]; omega
theorem g_lines (ok : Ok a) (rc : RC a nl nT LS TS FP FS bc sg) {d : Nat} (hd4 : 4 ≤ d) (hd : d ≤ 40) (hFt : F + sumL a.lm (fun i => decide (a.ld i = d)) a.nl ≤ 60) : ∀ (n l : Nat) (P : List Pc) (pl md : MS), RM a md → l ≤ a.nl → a.nl - l < n → P.length = sumL a.lm (fun i => decide (a.ld i = d)) l → psum P = sumL (fun i => a.lm i * cutLen a i) (fun i => decide (a.ld i = d)) l → (∀ x ∈ P, x.2 ≤ 120000 ∧ x.1 < a.nl) → GP F P pl md →
    (∃ p2 i, i < a.nl ∧ a.ld i = d ∧ cutLen a i = 0 ∧ l_Bc_gatherPieces_2 n (jI d) (jI F) (jI l) nl nT LS TS FP FS bc sg tr tu ff pl lw = some (0, bc, sg, tr, tu, ff, p2, lw)) ∨
    (∃ w P2 p2 m2, l_Bc_gatherPieces_2 n (jI d) (jI F) (jI l) nl nT LS TS FP FS bc sg tr tu ff pl lw = some (1, bc, sg, tr, tu, ff, p2, lw) ∧ l_Md_findPieces_7 n (jI d) (jI l) md = some (w, m2) ∧ GP F P2 p2 m2 ∧ kG F pl p2 md m2 ∧ P2.length = sumL a.lm (fun i => decide (a.ld i = d)) a.nl ∧ psum P2 = sumL (fun i => a.lm i * cutLen a i) (fun i => decide (a.ld i = d)) a.nl ∧ (∀ x ∈ P2, x.2 ≤ 120000 ∧ x.1 < a.nl) ∧ (∀ i, l ≤ i → i < a.nl → a.ld i = d → 0 < cutLen a i)) := by
  intro n
  have hn12 := ok.nl
  induction n with
  | zero => intro l P pl md _ _ h; omega
  | succ n ih =>
    intro l P pl md rm hl hn hPl hPs hP gp
    rw [l_Bc_gatherPieces_2, l_Md_findPieces_7, rc.c1, rm.s2, rc.nl]
    by_cases e : l = a.nl
    · subst e
      rw [if_pos (Int32.le_refl _), if_pos (Int32.le_refl _)]
      exact Or.inr ⟨_, P, pl, md, rfl, rfl, gp, kG.rf F pl md, hPl, hPs, hP, fun i h1 h2 => by omega⟩
    · have hl' : l < a.nl := by omega
      have nle : ¬ jI (a.nl : Int) ≤ jI l := by simp (disch := omega) only [jI_lit, jL_lit, jI_n, jI_add, jI_sub, jI_mul, jI_neg, jL_add, jL_sub, jL_mul, jL_neg, jI_lt, jI_le, jI_eq, jL_lt, jL_le, jL_eq, jI_c, jI_64, jL_32, jI_div, jL_div, jx, bnd, if_true, if_false, if_pos, if_neg, Int.toNat_natCast, Int.reduceToNat, Int.add_zero, Int.zero_add, Int.reduceAdd, Int.reduceSub, Int.reduceMul, Int.reduceNeg, Int.reduceLT, Int.reduceLE, jI_rem, sI_1, sI_2, sA_1, sA_2, sA_3, sL_1, sL_2, sL_3, upd_a, updL_a, vaup_a, Nat.reduceEqDiff, Ab_sz, Ab_tx, Ab_ns, Ab_sn, Ab_sx, Ab_ru, Ab_nl, Ab_lsh, Ab_ld, Ab_lm, Ab_lg, Ab_pd, Ab_px, Ab_py, Ab_pz, Ab_kn, Ab_kl, Ab_km]; omega
      have i1 : ix (jI (l : Int)) 12 = true := jx (by omega) (by omega) (by omega)
      have c1 : (jI (l : Int)).toNatClampNeg = l := by rw [jI_c (by omega) (by omega)]; omega
      have e8 : jI (l : Int) + 1 = jI ((l + 1 : Nat) : Int) := jI_add _ 1
      have hdl := ok.ld l hl'
      have hcb := x_cutb ok hl'
      have hlm := ok.lm l hl'
      simp only [nle, if_false, i1, c1, if_true, bnd, hl', (rc.ls l hl').di, e8]
      by_cases cd : a.ld l = d
      · have n1 : jI (a.ld l : Int) = jI d := by rw [cd]
        simp only [n1, if_true]
        have hcl := x_cutLength (tr := tr) (tu := tu) (ff := ff) (pl := pl) (lw := lw) ok rc hl'
        rw [rc.nl] at hcl
        rw [hcl]
        simp only [bnd]
        by_cases cz : cutLen a l = 0
        · refine Or.inl ⟨pl, l, hl', cd, cz, ?_⟩
          rw [if_pos (by rw [cz]; rfl)]
        · have nz : ¬ jI (cutLen a l : Int) = 0 := by rw [show (0 : Int32) = jI 0 from rfl, jI_eq (by omega) (by omega) (by omega) (by omega)]; omega
          simp only [nz, if_false]
          have hsl := sumL_le (f := a.lm) (p := fun i => decide (a.ld i = d)) (l + 1) a.nl (by omega)
          simp only [sumL, cd, decide_true, if_true] at hsl
          obtain ⟨v, w, P2, p2, m2, g1, g2, g3, g4, g5, g6, g7⟩ := g_many (tr := tr) (tu := tu) (ff := ff) (lw := lw) ok rc hl' cd fu 0 P pl md rm (by omega) (by unfold fu; omega) (by omega) hP gp
          rw [rc.nl] at g1
          have g1' : l_Bc_gatherPieces_45 fu (jI d) (jI F) (jI l) (jI (cutLen a l)) 0 a.nl nT LS TS FP FS l bc sg tr tu ff pl lw = some (v, bc, sg, tr, tu, ff, p2, lw) := g1
          have g2' : l_Md_findPieces_17 fu (jI d) (jI l) 0 md = some (w, m2) := g2
          rw [g1', g2']
          simp only [bnd]
          have ih' := ih (l + 1) P2 p2 m2 (rm.kept3 g4.k3) (by omega) (by omega) (by simp only [sumL, cd, decide_true, if_true]; omega) (by simp only [sumL, cd, decide_true, if_true]; rw [g6, hPs]; simp) g7 g3
          rw [rc.nl] at ih'
          rcases ih' with ⟨p3, i, a1, a2, a3, a4⟩ | ⟨w3, P3, p3, m3, a1, a2, a3, a4, a5, a6, a7, a8⟩
          · exact Or.inl ⟨p3, i, a1, a2, a3, a4⟩
          · refine Or.inr ⟨w3, P3, p3, m3, a1, a2, a3, g4.tr a4, a5, a6, a7, fun i h1 h2 h3 => ?_⟩
            by_cases ei : i = l
            · subst ei; omega
            · exact a8 i (by omega) h2 h3
      · have n1 : ¬ jI (a.ld l : Int) = jI d := by rw [jI_eq (by omega) (by omega) (by omega) (by omega)]; omega
        simp only [n1, if_false]
        have hm : l_Md_findPieces_17 fu (jI d) (jI l) 0 md = some (0, md) := by
          obtain ⟨n, hn⟩ := fu_k 1 (by omega)
          rw [hn, l_Md_findPieces_17]
          simp only [i1, c1, if_true, rm.ma l hl', rm.di l hl', n1, if_false]
          rw [if_neg (by simp (disch := omega) only [jI_lit, jL_lit, jI_n, jI_add, jI_sub, jI_mul, jI_neg, jL_add, jL_sub, jL_mul, jL_neg, jI_lt, jI_le, jI_eq, jL_lt, jL_le, jL_eq, jI_c, jI_64, jL_32, jI_div, jL_div, jx, bnd, if_true, if_false, if_pos, if_neg, Int.toNat_natCast, Int.reduceToNat, Int.add_zero, Int.zero_add, Int.reduceAdd, Int.reduceSub, Int.reduceMul, Int.reduceNeg, Int.reduceLT, Int.reduceLE, jI_rem, sI_1, sI_2, sA_1, sA_2, sA_3, sL_1, sL_2, sL_3, upd_a, updL_a, vaup_a, Nat.reduceEqDiff, Ab_sz, Ab_tx, Ab_ns, Ab_sn, Ab_sx, Ab_ru, Ab_nl, Ab_lsh, Ab_ld, Ab_lm, Ab_lg, Ab_pd, Ab_px, Ab_py, Ab_pz, Ab_kn, Ab_kl, Ab_km]; omega)]
        rw [hm]
        simp only [bnd]
        have ih' := ih (l + 1) P pl md rm (by omega) (by omega) (by simp [sumL, cd]; omega) (by simp [sumL, cd]; omega) hP gp
        rw [rc.nl] at ih'
        rcases ih' with h1 | ⟨w3, P3, p3, m3, a1, a2, a3, a4, a5, a6, a7, a8⟩
        · exact Or.inl h1
        · refine Or.inr ⟨w3, P3, p3, m3, a1, a2, a3, a4, a5, a6, a7, fun i h1 h2 h3 => ?_⟩
          by_cases ei : i = l
          · subst ei; exact absurd h3 cd
          · exact a8 i (by omega) h2 h3
end GA
