section CU
variable {d c F : Nat} {ln g : Nat → Nat} {B0 B : List Bar} {asg : Nat → Option Nat} {pl0 pl md0 md : MS}
def rooms (B0 B : List Bar) : Prop := ∀ (b : Nat) (x : Bar), B0.length ≤ b → B[b]? = some x → 0 ≤ x.2.2.1 ∧ x.2.2.1 ≤ 30000
theorem ff_first (h : CS d c F ln g B0 pl0 md0 B asg pl md) (hr : rooms B0 B) (hB : B.length ≤ 60) (hc : c ≤ 60) (hF : F + c ≤ 60) {p : Nat} (hp : p < c) (hg : ∀ q, q < c → g q ≤ 120000) (y1 y2 y3 : Int32) : ∀ (n b : Nat), B0.length ≤ b → b ≤ B.length → B.length - b < n →
    ∃ b2 : Nat, b ≤ b2 ∧ b2 ≤ B.length ∧ l_Ff_firstWithRoom_2 n y1 (jI (g p)) (jI b) pl = some (if b2 = B.length then jI (-2) else jI b2) ∧ l_Md_cutInTurn_18 n y2 y3 (jI p) (jI b) md = some (jI b2) ∧ (∀ x, B[b2]? = some x → (g p : Int) ≤ x.2.2.1) := by
  intro n
  have hgp := hg p hp
  induction n with
  | zero => intro b _ _ h; omega
  | succ n ih =>
    intro b hb0 hb hn
    rw [l_Ff_firstWithRoom_2, l_Md_cutInTurn_18, h.br.n, h.br.m]
    by_cases e : b = B.length
    · refine ⟨b, Nat.le_refl _, hb, ?_, ?_, ?_⟩
      · rw [if_pos (by rw [e]; exact Int32.le_refl _), if_pos e]; rfl
      · rw [if_pos (by rw [e]; exact Int32.le_refl _)]
      · intro x hx
        rw [e] at hx
        have := (List.getElem?_eq_some_iff.mp hx).1
        omega
    · have hb' : b < B.length := by omega
      have e0 := List.getElem?_eq_getElem hb'
      have t := h.br.t b _ e0
      have hrm := hr b _ hb0 e0
      have pp := h.pp p hp
      have nle : ¬ jI (B.length : Int) ≤ jI b := by simp (disch := omega) only [jI_lit, jL_lit, jI_n, jI_add, jI_sub, jI_mul, jI_neg, jL_add, jL_sub, jL_mul, jL_neg, jI_lt, jI_le, jI_eq, jL_lt, jL_le, jL_eq, jI_c, jI_64, jL_32, jI_div, jL_div, jx, bnd, if_true, if_false, if_pos, if_neg, Int.toNat_natCast, Int.reduceToNat, Int.add_zero, Int.zero_add, Int.reduceAdd, Int.reduceSub, Int.reduceMul, Int.reduceNeg, Int.reduceLT, Int.reduceLE, jI_rem, sI_1, sI_2, sA_1, sA_2, sA_3, sL_1, sL_2, sL_3, upd_a, updL_a, vaup_a, Nat.reduceEqDiff, Ab_sz, Ab_tx, Ab_ns, Ab_sn, Ab_sx, Ab_ru, Ab_nl, Ab_lsh, Ab_ld, Ab_lm, Ab_lg, Ab_pd, Ab_px, Ab_py, Ab_pz, Ab_kn, Ab_kl, Ab_km]; omega
      simp only [nle, if_false]
      rw [jx (by omega) (by omega) (by omega), jx (by omega) (by omega) (by omega)]
      simp only [if_true]
      rw [show (jI (b : Int)).toNatClampNeg = b from by rw [jI_c (by omega) (by omega)]; omega, show (jI (p : Int)).toNatClampNeg = p from by rw [jI_c (by omega) (by omega)]; omega, t.2.2.1, t.2.2.2.2.2.2.1, pp.2.2.2]
      by_cases c1 : (B[b]).2.2.1 < g p
      · obtain ⟨b2, h1, h2, h3, h4, h5⟩ := ih (b + 1) (by omega) (by omega) (by omega)
        refine ⟨b2, by omega, h2, ?_, ?_, h5⟩
        · rw [if_pos (by simp (disch := omega) only [jI_lit, jL_lit, jI_n, jI_add, jI_sub, jI_mul, jI_neg, jL_add, jL_sub, jL_mul, jL_neg, jI_lt, jI_le, jI_eq, jL_lt, jL_le, jL_eq, jI_c, jI_64, jL_32, jI_div, jL_div, jx, bnd, if_true, if_false, if_pos, if_neg, Int.toNat_natCast, Int.reduceToNat, Int.add_zero, Int.zero_add, Int.reduceAdd, Int.reduceSub, Int.reduceMul, Int.reduceNeg, Int.reduceLT, Int.reduceLE, jI_rem, sI_1, sI_2, sA_1, sA_2, sA_3, sL_1, sL_2, sL_3, upd_a, updL_a, vaup_a, Nat.reduceEqDiff, Ab_sz, Ab_tx, Ab_ns, Ab_sn, Ab_sx, Ab_ru, Ab_nl, Ab_lsh, Ab_ld, Ab_lm, Ab_lg, Ab_pd, Ab_px, Ab_py, Ab_pz, Ab_kn, Ab_kl, Ab_km]; omega), show jI (b : Int) + 1 = jI ((b + 1 : Nat) : Int) from jI_add _ 1]; exact h3
        · rw [if_neg (by simp (disch := omega) only [jI_lit, jL_lit, jI_n, jI_add, jI_sub, jI_mul, jI_neg, jL_add, jL_sub, jL_mul, jL_neg, jI_lt, jI_le, jI_eq, jL_lt, jL_le, jL_eq, jI_c, jI_64, jL_32, jI_div, jL_div, jx, bnd, if_true, if_false, if_pos, if_neg, Int.toNat_natCast, Int.reduceToNat, Int.add_zero, Int.zero_add, Int.reduceAdd, Int.reduceSub, Int.reduceMul, Int.reduceNeg, Int.reduceLT, Int.reduceLE, jI_rem, sI_1, sI_2, sA_1, sA_2, sA_3, sL_1, sL_2, sL_3, upd_a, updL_a, vaup_a, Nat.reduceEqDiff, Ab_sz, Ab_tx, Ab_ns, Ab_sn, Ab_sx, Ab_ru, Ab_nl, Ab_lsh, Ab_ld, Ab_lm, Ab_lg, Ab_pd, Ab_px, Ab_py, Ab_pz, Ab_kn, Ab_kl, Ab_km]; omega), show jI (b : Int) + 1 = jI ((b + 1 : Nat) : Int) from jI_add _ 1]; exact h4
      · refine ⟨b, Nat.le_refl _, hb, ?_, ?_, ?_⟩
        · rw [if_neg (by simp (disch := omega) only [jI_lit, jL_lit, jI_n, jI_add, jI_sub, jI_mul, jI_neg, jL_add, jL_sub, jL_mul, jL_neg, jI_lt, jI_le, jI_eq, jL_lt, jL_le, jL_eq, jI_c, jI_64, jL_32, jI_div, jL_div, jx, bnd, if_true, if_false, if_pos, if_neg, Int.toNat_natCast, Int.reduceToNat, Int.add_zero, Int.zero_add, Int.reduceAdd, Int.reduceSub, Int.reduceMul, Int.reduceNeg, Int.reduceLT, Int.reduceLE, jI_rem, sI_1, sI_2, sA_1, sA_2, sA_3, sL_1, sL_2, sL_3, upd_a, updL_a, vaup_a, Nat.reduceEqDiff, Ab_sz, Ab_tx, Ab_ns, Ab_sn, Ab_sx, Ab_ru, Ab_nl, Ab_lsh, Ab_ld, Ab_lm, Ab_lg, Ab_pd, Ab_px, Ab_py, Ab_pz, Ab_kn, Ab_kl, Ab_km]; omega), if_neg e]
        · rw [if_pos (by simp (disch := omega) only [jI_lit, jL_lit, jI_n, jI_add, jI_sub, jI_mul, jI_neg, jL_add, jL_sub, jL_mul, jL_neg, jI_lt, jI_le, jI_eq, jL_lt, jL_le, jL_eq, jI_c, jI_64, jL_32, jI_div, jL_div, jx, bnd, if_true, if_false, if_pos, if_neg, Int.toNat_natCast, Int.reduceToNat, Int.add_zero, Int.zero_add, Int.reduceAdd, Int.reduceSub, Int.reduceMul, Int.reduceNeg, Int.reduceLT, Int.reduceLE, jI_rem, sI_1, sI_2, sA_1, sA_2, sA_3, sL_1, sL_2, sL_3, upd_a, updL_a, vaup_a, Nat.reduceEqDiff, Ab_sz, Ab_tx, Ab_ns, Ab_sn, Ab_sx, Ab_ru, Ab_nl, Ab_lsh, Ab_ld, Ab_lm, Ab_lg, Ab_pd, Ab_px, Ab_py, Ab_pz, Ab_kn, Ab_kl, Ab_km]; omega)]
        · intro x hx
          rw [e0] at hx
          obtain rfl := Option.some.inj hx
          omega
theorem ff_kind {kn : Nat} {sz lf : Nat → Nat} {ff sf : MS} (hk3 : kn ≤ 3) (hd : d < 41) (hz : ∀ k, k < kn → 1 ≤ sz k ∧ sz k ≤ 30000) (hlf : ∀ k, k < kn → lf k ≤ 20) (s0 : sf.1 0 = jI kn) (s1 : ∀ k, k < kn → sf.2.1 0 k = jI (sz k)) (f1 : ∀ k, k < kn → ff.2.1 0 k = jI (lf k)) (m7 : md.2.1 7 d = jI kn) (m5 : ∀ k, k < kn → md.2.2 5 (3 * d + k) = jL (sz k)) (m9 : ∀ k, k < kn → md.2.1 9 k = jI (lf k)) {s : Nat} (hs : s ≤ 120000) :
    ∀ (n k : Nat) (x : Int), k ≤ kn → kn - k < n → (x = -2 ∨ ∃ j : Nat, x = j ∧ j < kn ∧ lf j ≠ 0 ∧ s ≤ sz j) →
    ∃ (y : Int) (v w : Int32), l_Ff_leastKindFor_6 n (jI s) (jI x) (jI k) ff sf = some (jI y, v) ∧ l_Md_kindFor_7 n (jI d) (jL s) (jI x) (jI k) md = some (jI y, w) ∧ (y = -2 ∨ ∃ j : Nat, y = j ∧ j < kn ∧ lf j ≠ 0 ∧ s ≤ sz j) := by
  intro n
  induction n with
  | zero => intro k x _ h; omega
  | succ n ih =>
    intro k x hk hn hx
    rw [l_Ff_leastKindFor_6, l_Md_kindFor_7, s0]
    have i1 : ix (jI (d : Int)) 41 = true := jx (by omega) (by omega) (by omega)
    have e1 : (jI (d : Int)).toNatClampNeg = d := by rw [jI_c (by omega) (by omega)]; omega
    rw [i1, e1, m7]
    simp only [if_true]
    by_cases e : k = kn
    · rw [if_pos (by rw [e]; exact Int32.le_refl _), if_pos (by rw [e]; exact Int32.le_refl _)]
      exact ⟨x, _, _, rfl, rfl, hx⟩
    · have hk' : k < kn := by omega
      have hzk := hz k hk'
      have hlk := hlf k hk'
      have i2 : ix (jI (k : Int)) 3 = true := jx (by omega) (by omega) (by omega)
      have e2 : (jI (k : Int)).toNatClampNeg = k := by rw [jI_c (by omega) (by omega)]; omega
      have i3 : ix (3 * jI (d : Int) + jI k) 123 = true := by rw [show (3 : Int32) = jI 3 from rfl, jI_mul, jI_add]; exact jx (by omega) (by omega) (by omega)
      have e3 : (3 * jI (d : Int) + jI k).toNatClampNeg = 3 * d + k := by rw [show (3 : Int32) = jI 3 from rfl, jI_mul, jI_add, jI_c (by omega) (by omega)]; omega
      have e4 : jI (k : Int) + 1 = jI ((k + 1 : Nat) : Int) := jI_add _ 1
      have nle : ¬ jI (kn : Int) ≤ jI k := by simp (disch := omega) only [jI_lit, jL_lit, jI_n, jI_add, jI_sub, jI_mul, jI_neg, jL_add, jL_sub, jL_mul, jL_neg, jI_lt, jI_le, jI_eq, jL_lt, jL_le, jL_eq, jI_c, jI_64, jL_32, jI_div, jL_div, jx, bnd, if_true, if_false, if_pos, if_neg, Int.toNat_natCast, Int.reduceToNat, Int.add_zero, Int.zero_add, Int.reduceAdd, Int.reduceSub, Int.reduceMul, Int.reduceNeg, Int.reduceLT, Int.reduceLE, jI_rem, sI_1, sI_2, sA_1, sA_2, sA_3, sL_1, sL_2, sL_3, upd_a, updL_a, vaup_a, Nat.reduceEqDiff, Ab_sz, Ab_tx, Ab_ns, Ab_sn, Ab_sx, Ab_ru, Ab_nl, Ab_lsh, Ab_ld, Ab_lm, Ab_lg, Ab_pd, Ab_px, Ab_py, Ab_pz, Ab_kn, Ab_kl, Ab_km]; omega
      simp only [nle, if_false]
      simp only [i2, e2, i3, e3, f1 k hk', s1 k hk', m5 k hk', m9 k hk', e4, bnd, if_true]
      by_cases c1 : lf k = 0
      · have n1 : jI (lf k : Int) ≤ 0 := by simp (disch := omega) only [jI_lit, jL_lit, jI_n, jI_add, jI_sub, jI_mul, jI_neg, jL_add, jL_sub, jL_mul, jL_neg, jI_lt, jI_le, jI_eq, jL_lt, jL_le, jL_eq, jI_c, jI_64, jL_32, jI_div, jL_div, jx, bnd, if_true, if_false, if_pos, if_neg, Int.toNat_natCast, Int.reduceToNat, Int.add_zero, Int.zero_add, Int.reduceAdd, Int.reduceSub, Int.reduceMul, Int.reduceNeg, Int.reduceLT, Int.reduceLE, jI_rem, sI_1, sI_2, sA_1, sA_2, sA_3, sL_1, sL_2, sL_3, upd_a, updL_a, vaup_a, Nat.reduceEqDiff, Ab_sz, Ab_tx, Ab_ns, Ab_sn, Ab_sx, Ab_ru, Ab_nl, Ab_lsh, Ab_ld, Ab_lm, Ab_lg, Ab_pd, Ab_px, Ab_py, Ab_pz, Ab_kn, Ab_kl, Ab_km]; omega
        simp only [n1, if_true, bnd]
        exact ih (k + 1) x (by omega) (by omega) hx
      · have n1 : ¬ jI (lf k : Int) ≤ 0 := by simp (disch := omega) only [jI_lit, jL_lit, jI_n, jI_add, jI_sub, jI_mul, jI_neg, jL_add, jL_sub, jL_mul, jL_neg, jI_lt, jI_le, jI_eq, jL_lt, jL_le, jL_eq, jI_c, jI_64, jL_32, jI_div, jL_div, jx, bnd, if_true, if_false, if_pos, if_neg, Int.toNat_natCast, Int.reduceToNat, Int.add_zero, Int.zero_add, Int.reduceAdd, Int.reduceSub, Int.reduceMul, Int.reduceNeg, Int.reduceLT, Int.reduceLE, jI_rem, sI_1, sI_2, sA_1, sA_2, sA_3, sL_1, sL_2, sL_3, upd_a, updL_a, vaup_a, Nat.reduceEqDiff, Ab_sz, Ab_tx, Ab_ns, Ab_sn, Ab_sx, Ab_ru, Ab_nl, Ab_lsh, Ab_ld, Ab_lm, Ab_lg, Ab_pd, Ab_px, Ab_py, Ab_pz, Ab_kn, Ab_kl, Ab_km]; omega
        simp only [n1, if_false]
        by_cases c2 : sz k < s
        · have n2 : jI (sz k : Int) < jI s := by simp (disch := omega) only [jI_lit, jL_lit, jI_n, jI_add, jI_sub, jI_mul, jI_neg, jL_add, jL_sub, jL_mul, jL_neg, jI_lt, jI_le, jI_eq, jL_lt, jL_le, jL_eq, jI_c, jI_64, jL_32, jI_div, jL_div, jx, bnd, if_true, if_false, if_pos, if_neg, Int.toNat_natCast, Int.reduceToNat, Int.add_zero, Int.zero_add, Int.reduceAdd, Int.reduceSub, Int.reduceMul, Int.reduceNeg, Int.reduceLT, Int.reduceLE, jI_rem, sI_1, sI_2, sA_1, sA_2, sA_3, sL_1, sL_2, sL_3, upd_a, updL_a, vaup_a, Nat.reduceEqDiff, Ab_sz, Ab_tx, Ab_ns, Ab_sn, Ab_sx, Ab_ru, Ab_nl, Ab_lsh, Ab_ld, Ab_lm, Ab_lg, Ab_pd, Ab_px, Ab_py, Ab_pz, Ab_kn, Ab_kl, Ab_km]; omega
          have n3 : jL (sz k : Int) < jL s := by simp (disch := omega) only [jI_lit, jL_lit, jI_n, jI_add, jI_sub, jI_mul, jI_neg, jL_add, jL_sub, jL_mul, jL_neg, jI_lt, jI_le, jI_eq, jL_lt, jL_le, jL_eq, jI_c, jI_64, jL_32, jI_div, jL_div, jx, bnd, if_true, if_false, if_pos, if_neg, Int.toNat_natCast, Int.reduceToNat, Int.add_zero, Int.zero_add, Int.reduceAdd, Int.reduceSub, Int.reduceMul, Int.reduceNeg, Int.reduceLT, Int.reduceLE, jI_rem, sI_1, sI_2, sA_1, sA_2, sA_3, sL_1, sL_2, sL_3, upd_a, updL_a, vaup_a, Nat.reduceEqDiff, Ab_sz, Ab_tx, Ab_ns, Ab_sn, Ab_sx, Ab_ru, Ab_nl, Ab_lsh, Ab_ld, Ab_lm, Ab_lg, Ab_pd, Ab_px, Ab_py, Ab_pz, Ab_kn, Ab_kl, Ab_km]; omega
          simp only [n2, n3, if_true, bnd]
          exact ih (k + 1) x (by omega) (by omega) hx
        · have n2 : ¬ jI (sz k : Int) < jI s := by simp (disch := omega) only [jI_lit, jL_lit, jI_n, jI_add, jI_sub, jI_mul, jI_neg, jL_add, jL_sub, jL_mul, jL_neg, jI_lt, jI_le, jI_eq, jL_lt, jL_le, jL_eq, jI_c, jI_64, jL_32, jI_div, jL_div, jx, bnd, if_true, if_false, if_pos, if_neg, Int.toNat_natCast, Int.reduceToNat, Int.add_zero, Int.zero_add, Int.reduceAdd, Int.reduceSub, Int.reduceMul, Int.reduceNeg, Int.reduceLT, Int.reduceLE, jI_rem, sI_1, sI_2, sA_1, sA_2, sA_3, sL_1, sL_2, sL_3, upd_a, updL_a, vaup_a, Nat.reduceEqDiff, Ab_sz, Ab_tx, Ab_ns, Ab_sn, Ab_sx, Ab_ru, Ab_nl, Ab_lsh, Ab_ld, Ab_lm, Ab_lg, Ab_pd, Ab_px, Ab_py, Ab_pz, Ab_kn, Ab_kl, Ab_km]; omega
          have n3 : ¬ jL (sz k : Int) < jL s := by simp (disch := omega) only [jI_lit, jL_lit, jI_n, jI_add, jI_sub, jI_mul, jI_neg, jL_add, jL_sub, jL_mul, jL_neg, jI_lt, jI_le, jI_eq, jL_lt, jL_le, jL_eq, jI_c, jI_64, jL_32, jI_div, jL_div, jx, bnd, if_true, if_false, if_pos, if_neg, Int.toNat_natCast, Int.reduceToNat, Int.add_zero, Int.zero_add, Int.reduceAdd, Int.reduceSub, Int.reduceMul, Int.reduceNeg, Int.reduceLT, Int.reduceLE, jI_rem, sI_1, sI_2, sA_1, sA_2, sA_3, sL_1, sL_2, sL_3, upd_a, updL_a, vaup_a, Nat.reduceEqDiff, Ab_sz, Ab_tx, Ab_ns, Ab_sn, Ab_sx, Ab_ru, Ab_nl, Ab_lsh, Ab_ld, Ab_lm, Ab_lg, Ab_pd, Ab_px, Ab_py, Ab_pz, Ab_kn, Ab_kl, Ab_km]; omega
          simp only [n2, n3, if_false, bnd, show ¬ (1 : Int32) = 0 by decide]
          have hxk : ((k : Int) = -2 ∨ ∃ j : Nat, (k : Int) = j ∧ j < kn ∧ lf j ≠ 0 ∧ s ≤ sz j) := Or.inr ⟨k, rfl, hk', c1, by omega⟩
          rcases hx with rfl | ⟨j, rfl, hj, hlj, hsj⟩
          · simp only [show jI (-2) = -2 from rfl, if_true]
            exact ih (k + 1) k (by omega) (by omega) hxk
          · have n2 : ¬ jI (j : Int) = -2 := by rw [show (-2 : Int32) = jI (-2) from rfl, jI_eq (by omega) (by omega) (by omega) (by omega)]; omega
            have hzj := hz j hj
            have i5 : ix (jI (j : Int)) 3 = true := jx (by omega) (by omega) (by omega)
            have e5 : (jI (j : Int)).toNatClampNeg = j := by rw [jI_c (by omega) (by omega)]; omega
            have i6 : ix (3 * jI (d : Int) + jI j) 123 = true := by rw [show (3 : Int32) = jI 3 from rfl, jI_mul, jI_add]; exact jx (by omega) (by omega) (by omega)
            have e6 : (3 * jI (d : Int) + jI j).toNatClampNeg = 3 * d + j := by rw [show (3 : Int32) = jI 3 from rfl, jI_mul, jI_add, jI_c (by omega) (by omega)]; omega
            simp only [n2, if_false, i5, e5, i6, e6, s1 j hj, m5 j hj, if_true]
            by_cases c3 : sz j ≤ sz k
            · have n4 : jI (sz j : Int) ≤ jI (sz k) := by simp (disch := omega) only [jI_lit, jL_lit, jI_n, jI_add, jI_sub, jI_mul, jI_neg, jL_add, jL_sub, jL_mul, jL_neg, jI_lt, jI_le, jI_eq, jL_lt, jL_le, jL_eq, jI_c, jI_64, jL_32, jI_div, jL_div, jx, bnd, if_true, if_false, if_pos, if_neg, Int.toNat_natCast, Int.reduceToNat, Int.add_zero, Int.zero_add, Int.reduceAdd, Int.reduceSub, Int.reduceMul, Int.reduceNeg, Int.reduceLT, Int.reduceLE, jI_rem, sI_1, sI_2, sA_1, sA_2, sA_3, sL_1, sL_2, sL_3, upd_a, updL_a, vaup_a, Nat.reduceEqDiff, Ab_sz, Ab_tx, Ab_ns, Ab_sn, Ab_sx, Ab_ru, Ab_nl, Ab_lsh, Ab_ld, Ab_lm, Ab_lg, Ab_pd, Ab_px, Ab_py, Ab_pz, Ab_kn, Ab_kl, Ab_km]; omega
              have n5 : jL (sz j : Int) ≤ jL (sz k) := by simp (disch := omega) only [jI_lit, jL_lit, jI_n, jI_add, jI_sub, jI_mul, jI_neg, jL_add, jL_sub, jL_mul, jL_neg, jI_lt, jI_le, jI_eq, jL_lt, jL_le, jL_eq, jI_c, jI_64, jL_32, jI_div, jL_div, jx, bnd, if_true, if_false, if_pos, if_neg, Int.toNat_natCast, Int.reduceToNat, Int.add_zero, Int.zero_add, Int.reduceAdd, Int.reduceSub, Int.reduceMul, Int.reduceNeg, Int.reduceLT, Int.reduceLE, jI_rem, sI_1, sI_2, sA_1, sA_2, sA_3, sL_1, sL_2, sL_3, upd_a, updL_a, vaup_a, Nat.reduceEqDiff, Ab_sz, Ab_tx, Ab_ns, Ab_sn, Ab_sx, Ab_ru, Ab_nl, Ab_lsh, Ab_ld, Ab_lm, Ab_lg, Ab_pd, Ab_px, Ab_py, Ab_pz, Ab_kn, Ab_kl, Ab_km]; omega
              simp only [n4, n5, if_true]
              exact ih (k + 1) j (by omega) (by omega) (Or.inr ⟨j, rfl, hj, hlj, hsj⟩)
            · have n4 : ¬ jI (sz j : Int) ≤ jI (sz k) := by simp (disch := omega) only [jI_lit, jL_lit, jI_n, jI_add, jI_sub, jI_mul, jI_neg, jL_add, jL_sub, jL_mul, jL_neg, jI_lt, jI_le, jI_eq, jL_lt, jL_le, jL_eq, jI_c, jI_64, jL_32, jI_div, jL_div, jx, bnd, if_true, if_false, if_pos, if_neg, Int.toNat_natCast, Int.reduceToNat, Int.add_zero, Int.zero_add, Int.reduceAdd, Int.reduceSub, Int.reduceMul, Int.reduceNeg, Int.reduceLT, Int.reduceLE, jI_rem, sI_1, sI_2, sA_1, sA_2, sA_3, sL_1, sL_2, sL_3, upd_a, updL_a, vaup_a, Nat.reduceEqDiff, Ab_sz, Ab_tx, Ab_ns, Ab_sn, Ab_sx, Ab_ru, Ab_nl, Ab_lsh, Ab_ld, Ab_lm, Ab_lg, Ab_pd, Ab_px, Ab_py, Ab_pz, Ab_kn, Ab_kl, Ab_km]; omega
              have n5 : ¬ jL (sz j : Int) ≤ jL (sz k) := by simp (disch := omega) only [jI_lit, jL_lit, jI_n, jI_add, jI_sub, jI_mul, jI_neg, jL_add, jL_sub, jL_mul, jL_neg, jI_lt, jI_le, jI_eq, jL_lt, jL_le, jL_eq, jI_c, jI_64, jL_32, jI_div, jL_div, jx, bnd, if_true, if_false, if_pos, if_neg, Int.toNat_natCast, Int.reduceToNat, Int.add_zero, Int.zero_add, Int.reduceAdd, Int.reduceSub, Int.reduceMul, Int.reduceNeg, Int.reduceLT, Int.reduceLE, jI_rem, sI_1, sI_2, sA_1, sA_2, sA_3, sL_1, sL_2, sL_3, upd_a, updL_a, vaup_a, Nat.reduceEqDiff, Ab_sz, Ab_tx, Ab_ns, Ab_sn, Ab_sx, Ab_ru, Ab_nl, Ab_lsh, Ab_ld, Ab_lm, Ab_lg, Ab_pd, Ab_px, Ab_py, Ab_pz, Ab_kn, Ab_kl, Ab_km]; omega
              simp only [n4, n5, if_false]
              exact ih (k + 1) k (by omega) (by omega) hxk
theorem ff_cutL {kn : Nat} {sz : Nat → Nat} {sf : MS} (hk3 : kn ≤ 3) (hd : d < 41) (hz : ∀ k, k < kn → 1 ≤ sz k ∧ sz k ≤ 30000) (s0 : sf.1 0 = jI kn) (s1 : ∀ k, k < kn → sf.2.1 0 k = jI (sz k)) (m7 : md0.2.1 7 d = jI kn) (m5 : ∀ k, k < kn → md0.2.2 5 (3 * d + k) = jL (sz k)) (hc : F + c ≤ 60) (hB0 : B0.length ≤ F) (hg : ∀ q, q < c → g q ≤ 120000) :
    ∀ (n p : Nat) (lf : Nat → Nat) (B : List Bar) (asg : Nat → Option Nat) (ff pl md : MS), p ≤ c → c - p < n → (∀ k, k < kn → lf k ≤ 20) → (∀ k, k < kn → ff.2.1 0 k = jI (lf k)) → (∀ k, k < kn → md.2.1 9 k = jI (lf k)) → CS d c F ln g B0 pl0 md0 B asg pl md → rooms B0 B → B.length ≤ B0.length + p → (B0.length < B.length → 0 < kn) → (∀ q, q < p → asg q ≠ none) → (∀ q, p ≤ q → asg q = none) →
    ∃ (r : Int) (ff2 pl2 m2 : MS) (B2 : List Bar) (asg2 : Nat → Option Nat), l_Ff_cut_24 n (jI F) (jI d) (jI B0.length) (jI ((F + p : Nat) : Int)) ff pl sf = some (jI r, ff2, pl2) ∧ l_Md_cutInTurn_7 n (jI d) (jI B0.length) (jI p) md = some (jI r, m2) ∧ CS d c F ln g B0 pl0 md0 B2 asg2 pl2 m2 ∧ (r = 0 ∨ (r = 1 ∧ (∀ q, q < c → asg2 q ≠ none) ∧ B2.length ≤ B0.length + c ∧ (B0.length < B2.length → 0 < kn))) := by
  intro n
  induction n with
  | zero => intro p lf B asg ff pl md _ h; omega
  | succ n ih =>
    intro p lf B asg ff pl md hp hn hlf f1 m9 cs hr hBl hkb ha1 ha2
    rw [l_Ff_cut_24, l_Md_cutInTurn_7, cs.pn, cs.mn]
    by_cases e : p = c
    · subst e
      rw [if_pos (Int32.le_refl _), if_pos (Int32.le_refl _)]
      exact ⟨1, ff, pl, md, B, asg, rfl, rfl, cs, Or.inr ⟨rfl, ha1, hBl, hkb⟩⟩
    · have hpc : p < c := by omega
      have hgp := hg p hpc
      have pp := cs.pp p hpc
      have i1 : ix (jI ((F + p : Nat) : Int)) 60 = true := jx (by omega) (by omega) (by omega)
      have e1 : (jI ((F + p : Nat) : Int)).toNatClampNeg = F + p := by rw [jI_c (by omega) (by omega)]; omega
      have i2 : ix (jI (p : Int)) 60 = true := jx (by omega) (by omega) (by omega)
      have e2 : (jI (p : Int)).toNatClampNeg = p := by rw [jI_c (by omega) (by omega)]; omega
      have e9 : jI ((F + p : Nat) : Int) + 1 = jI ((F + (p + 1) : Nat) : Int) := jI_add _ 1
      have e8 : jI (p : Int) + 1 = jI ((p + 1 : Nat) : Int) := jI_add _ 1
      obtain ⟨b2, h1, h2, h3, h4, h5⟩ := ff_first cs hr (by omega) (by omega) hc hpc hg (jI B0.length) (jI d) (jI B0.length) fu B0.length (Nat.le_refl _) cs.bl (by unfold fu; omega)
      have na : ¬ jI ((F + c : Nat) : Int) ≤ jI ((F + p : Nat) : Int) := by simp (disch := omega) only [jI_lit, jL_lit, jI_n, jI_add, jI_sub, jI_mul, jI_neg, jL_add, jL_sub, jL_mul, jL_neg, jI_lt, jI_le, jI_eq, jL_lt, jL_le, jL_eq, jI_c, jI_64, jL_32, jI_div, jL_div, jx, bnd, if_true, if_false, if_pos, if_neg, Int.toNat_natCast, Int.reduceToNat, Int.add_zero, Int.zero_add, Int.reduceAdd, Int.reduceSub, Int.reduceMul, Int.reduceNeg, Int.reduceLT, Int.reduceLE, jI_rem, sI_1, sI_2, sA_1, sA_2, sA_3, sL_1, sL_2, sL_3, upd_a, updL_a, vaup_a, Nat.reduceEqDiff, Ab_sz, Ab_tx, Ab_ns, Ab_sn, Ab_sx, Ab_ru, Ab_nl, Ab_lsh, Ab_ld, Ab_lm, Ab_lg, Ab_pd, Ab_px, Ab_py, Ab_pz, Ab_kn, Ab_kl, Ab_km]; omega
      have nb : ¬ jI (c : Int) ≤ jI p := by simp (disch := omega) only [jI_lit, jL_lit, jI_n, jI_add, jI_sub, jI_mul, jI_neg, jL_add, jL_sub, jL_mul, jL_neg, jI_lt, jI_le, jI_eq, jL_lt, jL_le, jL_eq, jI_c, jI_64, jL_32, jI_div, jL_div, jx, bnd, if_true, if_false, if_pos, if_neg, Int.toNat_natCast, Int.reduceToNat, Int.add_zero, Int.zero_add, Int.reduceAdd, Int.reduceSub, Int.reduceMul, Int.reduceNeg, Int.reduceLT, Int.reduceLE, jI_rem, sI_1, sI_2, sA_1, sA_2, sA_3, sL_1, sL_2, sL_3, upd_a, updL_a, vaup_a, Nat.reduceEqDiff, Ab_sz, Ab_tx, Ab_ns, Ab_sn, Ab_sx, Ab_ru, Ab_nl, Ab_lsh, Ab_ld, Ab_lm, Ab_lg, Ab_pd, Ab_px, Ab_py, Ab_pz, Ab_kn, Ab_kl, Ab_km]; omega
      simp only [na, nb, if_false]
      rw [h4]
      unfold f_Ff_firstWithRoom
      simp only [i1, e1, pp.2.1, bnd, if_true]
      rw [h3]
      simp only [bnd]
      have mm : ∀ k, k < kn → md.2.2 5 (3 * d + k) = jL (sz k) := fun k hk => by rw [cs.km.2.2 5 (by omega)]; exact m5 k hk
      have mm7 : md.2.1 7 d = jI kn := by rw [cs.km.2.1 7 (by omega)]; exact m7
      by_cases cb : b2 = B.length
      · rw [if_pos cb, if_pos (show jI (-2) = -2 from rfl), cb, cs.br.m, if_pos rfl, i2, e2, pp.2.2.2]
        simp only [if_true]
        obtain ⟨y, v, w, k1, k2, hy⟩ := ff_kind (ff := ff) (sf := sf) hk3 hd hz hlf s0 s1 f1 mm7 mm m9 (s := g p) hgp fu 0 (-2) (by omega) (by unfold fu; omega) (Or.inl rfl)
        have k1' : f_Ff_leastKindFor ff sf (jI (g p)) = some (jI y) := by
          unfold f_Ff_leastKindFor
          have : l_Ff_leastKindFor_6 fu (jI (g p)) (-2) 0 ff sf = some (jI y, v) := k1
          rw [this]; rfl
        have k2' : f_Md_kindFor md (jI d) (jL (g p)) = some (jI y) := by
          unfold f_Md_kindFor
          have : l_Md_kindFor_7 fu (jI d) (jL (g p)) (-2) 0 md = some (jI y, w) := k2
          rw [this]; rfl
        rw [k1', k2']
        simp only [bnd]
        rcases hy with rfl | ⟨k, rfl, hk, hlk, hsk⟩
        · rw [if_pos (show jI (-2) = -2 from rfl), if_pos (show jI (-2) = -2 from rfl)]
          exact ⟨0, ff, pl, md, B, asg, rfl, rfl, cs, Or.inl rfl⟩
        · have n2 : ¬ jI (k : Int) = -2 := by rw [show (-2 : Int32) = jI (-2) from rfl, jI_eq (by omega) (by omega) (by omega) (by omega)]; omega
          have hzk := hz k hk
          have i5 : ix (jI (k : Int)) 3 = true := jx (by omega) (by omega) (by omega)
          have e5 : (jI (k : Int)).toNatClampNeg = k := by rw [jI_c (by omega) (by omega)]; omega
          obtain ⟨pl2, m2, o1, o2, cs2, o3, o4⟩ := cs_open cs (by omega) (show k < 3 by omega) hd (m5 k hk) hzk.2 (m9 k hk)
          rw [if_neg n2, if_neg n2]
          simp only [i5, e5, s1 k hk, bnd, if_true]
          rw [o1, o2]
          simp only [bnd]
          rw [if_neg (by rw [show (-2 : Int32) = jI (-2) from rfl, jI_eq (by omega) (by omega) (by omega) (by omega)]; omega)]
          have hlen2 : (B ++ [(d, sz k, ((sz k : Nat) : Int), [])]).length = B.length + 1 := by simp
          have hget : (B ++ [((d, sz k, ((sz k : Nat) : Int), []) : Bar)])[B.length]'(by rw [hlen2]; omega) = (d, sz k, ((sz k : Nat) : Int), []) := by simp
          obtain ⟨pl3, m3, q1, q2, cs3, q3⟩ := cs_put cs2 hc hpc cs.bl (by rw [hlen2]; omega) (by rw [hlen2]; omega) (ha2 p (Nat.le_refl _)) (fun q h1 h2 => by rw [ha2 q (by omega)]; simp)
          rw [q1, q2]
          simp only [bnd]
          rw [e9, e8]
          refine ih (p + 1) (decK lf k) _ _ _ pl3 m3 (by omega) (by omega) (fun j hj => by have := hlf j hj; unfold decK; split <;> omega) (fun j hj => ?_) (fun j hj => ?_) cs3 ?_ ?_ (fun _ => by omega) ?_ ?_
          · have := hlf k hk
            unfold decK
            by_cases ej : j = k
            · subst ej; simp (disch := omega) only [jI_lit, jL_lit, jI_n, jI_add, jI_sub, jI_mul, jI_neg, jL_add, jL_sub, jL_mul, jL_neg, jI_lt, jI_le, jI_eq, jL_lt, jL_le, jL_eq, jI_c, jI_64, jL_32, jI_div, jL_div, jx, bnd, if_true, if_false, if_pos, if_neg, Int.toNat_natCast, Int.reduceToNat, Int.add_zero, Int.zero_add, Int.reduceAdd, Int.reduceSub, Int.reduceMul, Int.reduceNeg, Int.reduceLT, Int.reduceLE, jI_rem, sI_1, sI_2, sA_1, sA_2, sA_3, sL_1, sL_2, sL_3, upd_a, updL_a, vaup_a, Nat.reduceEqDiff, Ab_sz, Ab_tx, Ab_ns, Ab_sn, Ab_sx, Ab_ru, Ab_nl, Ab_lsh, Ab_ld, Ab_lm, Ab_lg, Ab_pd, Ab_px, Ab_py, Ab_pz, Ab_kn, Ab_kl, Ab_km, f1 j hj]; congr 1; omega
            · simp (disch := omega) only [jI_lit, jL_lit, jI_n, jI_add, jI_sub, jI_mul, jI_neg, jL_add, jL_sub, jL_mul, jL_neg, jI_lt, jI_le, jI_eq, jL_lt, jL_le, jL_eq, jI_c, jI_64, jL_32, jI_div, jL_div, jx, bnd, if_true, if_false, if_pos, if_neg, Int.toNat_natCast, Int.reduceToNat, Int.add_zero, Int.zero_add, Int.reduceAdd, Int.reduceSub, Int.reduceMul, Int.reduceNeg, Int.reduceLT, Int.reduceLE, jI_rem, sI_1, sI_2, sA_1, sA_2, sA_3, sL_1, sL_2, sL_3, upd_a, updL_a, vaup_a, Nat.reduceEqDiff, Ab_sz, Ab_tx, Ab_ns, Ab_sn, Ab_sx, Ab_ru, Ab_nl, Ab_lsh, Ab_ld, Ab_lm, Ab_lg, Ab_pd, Ab_px, Ab_py, Ab_pz, Ab_kn, Ab_kl, Ab_km]; exact f1 j hj
          · have := hlf k hk
            rw [q3 9 (by omega), o3 j]
            unfold decK
            by_cases ej : j = k
            · rw [if_pos ej, if_pos ej, ej]; congr 1; omega
            · rw [if_neg ej, if_neg ej]; exact m9 j hj
          · intro b x hb hx
            by_cases eb : b = B.length
            · subst eb
              rw [List.getElem?_set_self (by rw [hlen2]; omega)] at hx
              obtain rfl := Option.some.inj hx
              simp only [hget]
              omega
            · rw [List.getElem?_set_ne (by omega)] at hx
              rcases get_app B _ b x hx with ⟨c1, e⟩ | ⟨c1, e⟩
              · exact hr b x hb e
              · omega
          · rw [List.length_set, hlen2]; omega
          · intro q hq
            show (if q = p then some _ else asg q) ≠ none
            by_cases eq : q = p
            · rw [if_pos eq]; simp
            · rw [if_neg eq]; exact ha1 q (by omega)
          · intro q hq
            show (if q = p then some _ else asg q) = none
            rw [if_neg (by omega)]; exact ha2 q (by omega)
      · have hb2 : b2 < B.length := by omega
        have n2 : ¬ jI (b2 : Int) = -2 := by rw [show (-2 : Int32) = jI (-2) from rfl, jI_eq (by omega) (by omega) (by omega) (by omega)]; omega
        rw [if_neg cb, if_neg n2, if_neg n2, cs.br.m, if_neg (by rw [jI_eq (by omega) (by omega) (by omega) (by omega)]; omega)]
        obtain ⟨pl3, m3, q1, q2, cs3, q3⟩ := cs_put cs hc hpc h1 hb2 (by omega) (ha2 p (Nat.le_refl _)) (fun q h1 h2 => by rw [ha2 q (by omega)]; simp)
        rw [q1, q2]
        simp only [bnd]
        rw [e9, e8]
        refine ih (p + 1) lf _ _ ff pl3 m3 (by omega) (by omega) hlf f1 (fun j hj => by rw [q3 9 (by omega)]; exact m9 j hj) cs3 ?_ ?_ (fun _ => hkb (by omega)) ?_ ?_
        · intro b x hb hx
          by_cases eb : b = b2
          · subst eb
            rw [List.getElem?_set_self hb2] at hx
            obtain rfl := Option.some.inj hx
            have e0 := List.getElem?_eq_getElem hb2
            have r1 := hr b _ hb e0
            have r2 := h5 _ e0
            simp only
            omega
          · rw [List.getElem?_set_ne (by omega)] at hx
            exact hr b x hb hx
        · rw [List.length_set]; omega
        · intro q hq
          show (if q = p then some _ else asg q) ≠ none
          by_cases eq : q = p
          · rw [if_pos eq]; simp
          · rw [if_neg eq]; exact ha1 q (by omega)
        · intro q hq
          show (if q = p then some _ else asg q) = none
          rw [if_neg (by omega)]; exact ha2 q (by omega)
end CU
def vW (kn : Nat) : Nat → Way → Prop
  | rest, [] => rest = 0
  | rest, x :: W => x.1 < kn ∧ x.2 &&& rest = x.2 ∧ hbit rest ≤ x.2 ∧ x.2 ≤ rest ∧ 0 < rest ∧ vW kn (rest - x.2) W
theorem vW_len {kn : Nat} : ∀ (W : Way) (rest r : Nat), vW kn rest W → rest < 2 ^ r → W.length ≤ r := by
  intro W
  induction W with
  | nil => intros; simp
  | cons x W ih =>
    intro rest r h hr
    obtain ⟨h1, h2, h3, h4, h5, h6⟩ := h
    cases r with
    | zero => omega
    | succ r =>
      have hlt := hbit_lt rest
      have hp := hbit_pow h5 hr
      have := ih (rest - x.2) r h6 (by omega)
      simp; omega
theorem srch_v {kn : Nat} {sz S : Nat → Nat} : ∀ (r rest : Nat) (left : Nat → Nat) (pre : Way) (cost : Nat) (b : Bst), 0 < rest → (srch kn sz S r rest left pre cost b = b ∨ ∃ W, (srch kn sz S r rest left pre cost b).2 = pre ++ W ∧ vW kn rest W ∧ (srch kn sz S r rest left pre cost b).1 < b.1) := by
  intro r
  induction r with
  | zero => intros; exact Or.inl rfl
  | succ r ih =>
    intro rest left pre cost b hr
    simp only [srch]
    have gen : ∀ {α : Type} (f : Bst → α → Bst) (l : List α) (P : α → Prop), (∀ x ∈ l, P x) → (∀ b' x, P x → (f b' x = b' ∨ ∃ W, (f b' x).2 = pre ++ W ∧ vW kn rest W ∧ (f b' x).1 < b'.1)) → ∀ b', (b' = b ∨ ∃ W, b'.2 = pre ++ W ∧ vW kn rest W ∧ b'.1 < b.1) → (l.foldl f b' = b ∨ ∃ W, (l.foldl f b').2 = pre ++ W ∧ vW kn rest W ∧ (l.foldl f b').1 < b.1) := by
      intro α f l P hP hf
      induction l with
      | nil => intro b' h; exact h
      | cons x l ihl =>
        intro b' h
        rw [List.foldl_cons]
        refine ihl (fun y hy => hP y (by simp [hy])) _ ?_
        rcases hf b' x (hP x (by simp)) with e | ⟨W, e1, e2, e3⟩
        · rw [e]; exact h
        · refine Or.inr ⟨W, e1, e2, ?_⟩
          rcases h with h | ⟨_, _, _, h⟩
          · have hh := congrArg Prod.fst h; omega
          · omega
    have step : ∀ b' k, k < kn → (oneKind (srch kn sz S r) sz S rest left pre cost b' k = b' ∨ ∃ W, (oneKind (srch kn sz S r) sz S rest left pre cost b' k).2 = pre ++ W ∧ vW kn rest W ∧ (oneKind (srch kn sz S r) sz S rest left pre cost b' k).1 < b'.1) := by
      intro b1 k hk
      unfold oneKind
      split
      · exact Or.inl rfl
      · have gen2 : ∀ (l : List Nat), (∀ x ∈ l, x ∈ rowsOf rest) → ∀ b', (b' = b1 ∨ ∃ W, b'.2 = pre ++ W ∧ vW kn rest W ∧ b'.1 < b1.1) → (l.foldl (oneRow (srch kn sz S r) S (sz k) k rest (decK left k) pre (cost + (16 * sz k + 1))) b' = b1 ∨ ∃ W, (l.foldl (oneRow (srch kn sz S r) S (sz k) k rest (decK left k) pre (cost + (16 * sz k + 1))) b').2 = pre ++ W ∧ vW kn rest W ∧ (l.foldl (oneRow (srch kn sz S r) S (sz k) k rest (decK left k) pre (cost + (16 * sz k + 1))) b').1 < b1.1) := by
          intro l
          induction l with
          | nil => intro _ b' h; exact h
          | cons row l ihl =>
            intro hl b' h
            rw [List.foldl_cons]
            refine ihl (fun y hy => hl y (by simp [hy])) _ ?_
            have hrow := hl row (by simp)
            have hm := rows_mem hrow
            have hv : vW kn rest [(k, row)] ∨ row ≠ rest := by
              by_cases e : row = rest
              · left
                exact ⟨hk, hm.1, hm.2.1, hm.2.2, hr, by show rest - row = 0; omega⟩
              · exact Or.inr e
            unfold oneRow
            split
            · split
              · rename_i e
                split
                · rename_i hc
                  refine Or.inr ⟨[(k, row)], rfl, ?_, ?_⟩
                  · rcases hv with hv | hv
                    · exact hv
                    · exact absurd e hv
                  · simp only
                    rcases h with h | ⟨_, _, _, h⟩
                    · rw [h] at hc; exact hc
                    · omega
                · exact h
              · rename_i e
                rcases ih (rest - row) (decK left k) (pre ++ [(k, row)]) (cost + (16 * sz k + 1)) b' (by omega) with e1 | ⟨W, e1, e2, e3⟩
                · rw [e1]; exact h
                · refine Or.inr ⟨(k, row) :: W, by rw [e1]; simp, ⟨hk, hm.1, hm.2.1, hm.2.2, hr, e2⟩, ?_⟩
                  rcases h with h | ⟨_, _, _, h⟩
                  · have hh := congrArg Prod.fst h; omega
                  · omega
            · exact h
        exact gen2 (rowsOf rest) (fun _ h => h) b1 (Or.inl rfl)
    exact gen (oneKind (srch kn sz S r) sz S rest left pre cost) (List.range kn) (fun k => k < kn) (fun k hk => List.mem_range.mp hk) step b (Or.inl rfl)
section CU
variable {d c F : Nat} {ln g : Nat → Nat} {B0 B : List Bar} {asg : Nat → Option Nat} {pl0 pl md0 md : MS}
theorem cs_fr {m2 : MS} (h : CS d c F ln g B0 pl0 md0 B asg pl md) (f : fr md m2) : CS d c F ln g B0 pl0 md0 B asg pl m2 := by
  have q : ∀ j, j ≠ 9 → j ≠ 11 → j ≠ 12 → j ≠ 13 → j ≠ 14 → j ≠ 15 → m2.2.1 j = md.2.1 j := f.2.2
  refine ⟨h.pn, by rw [f.1]; exact h.mn, fun p hp => ?_, ⟨h.br.n, by rw [f.1]; exact h.br.m, fun b x hx => ?_, fun b x hx m y hy => ?_, h.br.lb⟩, h.ag, h.ls, h.b0, h.bl, h.dm, h.zb, h.kp, ⟨fun k hk => by rw [f.1]; exact h.km.1 k hk, fun k hk => ?_, fun k hk => by rw [f.2.1]; exact h.km.2.2 k hk⟩⟩
  · rw [q 10 (by omega) (by omega) (by omega) (by omega) (by omega) (by omega), f.2.1]; exact h.pp p hp
  · rw [q 16 (by omega) (by omega) (by omega) (by omega) (by omega) (by omega), q 17 (by omega) (by omega) (by omega) (by omega) (by omega) (by omega), f.2.1]; exact h.br.t b x hx
  · rw [q 18 (by omega) (by omega) (by omega) (by omega) (by omega) (by omega)]; exact h.br.l b x hx m y hy
  · rw [q k (by omega) (by omega) (by omega) (by omega) (by omega) (by omega)]; exact h.km.2.1 k hk
def un (c rest : Nat) (asg : Nat → Option Nat) : Prop := ∀ q, q < c → (rest.testBit (c - 1 - q) = true ↔ asg q = none)
theorem wr_in (hF : F + c ≤ 60) (hc : c ≤ 8) {lw : MS} {i row rest b : Nat} (hi : i < 8) (hrow : row < 256) (hrest : rest < 256) (hs : row &&& rest = row) (h7 : lw.2.1 7 i = jI row) (hb0 : B0.length ≤ b) (y1 y2 y5 : Int32) (y3 y6 : Int64) (yd : Int32) :
    ∀ (n p : Nat) (B : List Bar) (asg : Nat → Option Nat) (pl md : MS), p ≤ c → c - p < n → b + 1 = B.length → B.length ≤ 60 → CS d c F ln g B0 pl0 md0 B asg pl md → md.2.1 15 i = jI row →
    (∀ q, q < c → (q < p → ((row.testBit (c - 1 - q) = true → asg q = some b) ∧ (row.testBit (c - 1 - q) = false → (rest.testBit (c - 1 - q) = true ↔ asg q = none) ∧ asg q ≠ some b))) ∧ (p ≤ q → (rest.testBit (c - 1 - q) = true ↔ asg q = none) ∧ asg q ≠ some b)) →
    ∃ v w B2 asg2 pl2 m2, l_Lw_writeBest_43 n (jI F) yd (jI i) (jI b) (jI ((F + p : Nat) : Int)) lw pl = some (v, pl2) ∧ l_Md_cutBest_452 n y1 y2 y3 y5 y6 (jI i) (jI p) md = some (w, m2) ∧ CS d c F ln g B0 pl0 md0 B2 asg2 pl2 m2 ∧ B2.length = B.length ∧ un c (rest - row) asg2 ∧ (∀ j, j = 9 ∨ 11 ≤ j ∧ j ≤ 15 → m2.2.1 j = md.2.1 j) := by
  intro n
  have hx := set_x rest hrest row hrow hs
  induction n with
  | zero => intro p B asg pl md _ h; omega
  | succ n ih =>
    intro p B asg pl md hp hn hb hBl cs h15 ha
    rw [l_Lw_writeBest_43, l_Md_cutBest_452, cs.pn, cs.mn]
    by_cases e : p = c
    · subst e
      rw [if_pos (Int32.le_refl _), if_pos (Int32.le_refl _)]
      refine ⟨_, _, B, asg, pl, md, rfl, rfl, cs, rfl, fun q hq => ?_, fun _ _ => rfl⟩
      have h1 := (ha q hq).1 hq
      rw [hx, Nat.testBit_xor]
      have hsub : row.testBit (p - 1 - q) = true → rest.testBit (p - 1 - q) = true := fun h => by
        have h2 : (row &&& rest).testBit (p - 1 - q) = true := by rw [hs]; exact h
        rw [Nat.testBit_and] at h2
        simp at h2
        exact h2.2
      cases hr : row.testBit (p - 1 - q) with
      | true =>
        rw [hsub hr, h1.1 hr]; simp
      | false =>
        rw [Bool.xor_false]
        exact (h1.2 hr).1
    · have hpc : p < c := by omega
      have na : ¬ jI ((F + c : Nat) : Int) ≤ jI ((F + p : Nat) : Int) := by simp (disch := omega) only [jI_lit, jL_lit, jI_n, jI_add, jI_sub, jI_mul, jI_neg, jL_add, jL_sub, jL_mul, jL_neg, jI_lt, jI_le, jI_eq, jL_lt, jL_le, jL_eq, jI_c, jI_64, jL_32, jI_div, jL_div, jx, bnd, if_true, if_false, if_pos, if_neg, Int.toNat_natCast, Int.reduceToNat, Int.add_zero, Int.zero_add, Int.reduceAdd, Int.reduceSub, Int.reduceMul, Int.reduceNeg, Int.reduceLT, Int.reduceLE, jI_rem, sI_1, sI_2, sA_1, sA_2, sA_3, sL_1, sL_2, sL_3, upd_a, updL_a, vaup_a, Nat.reduceEqDiff, Ab_sz, Ab_tx, Ab_ns, Ab_sn, Ab_sx, Ab_ru, Ab_nl, Ab_lsh, Ab_ld, Ab_lm, Ab_lg, Ab_pd, Ab_px, Ab_py, Ab_pz, Ab_kn, Ab_kl, Ab_km]; omega
      have nb : ¬ jI (c : Int) ≤ jI p := by simp (disch := omega) only [jI_lit, jL_lit, jI_n, jI_add, jI_sub, jI_mul, jI_neg, jL_add, jL_sub, jL_mul, jL_neg, jI_lt, jI_le, jI_eq, jL_lt, jL_le, jL_eq, jI_c, jI_64, jL_32, jI_div, jL_div, jx, bnd, if_true, if_false, if_pos, if_neg, Int.toNat_natCast, Int.reduceToNat, Int.add_zero, Int.zero_add, Int.reduceAdd, Int.reduceSub, Int.reduceMul, Int.reduceNeg, Int.reduceLT, Int.reduceLE, jI_rem, sI_1, sI_2, sA_1, sA_2, sA_3, sL_1, sL_2, sL_3, upd_a, updL_a, vaup_a, Nat.reduceEqDiff, Ab_sz, Ab_tx, Ab_ns, Ab_sn, Ab_sx, Ab_ru, Ab_nl, Ab_lsh, Ab_ld, Ab_lm, Ab_lg, Ab_pd, Ab_px, Ab_py, Ab_pz, Ab_kn, Ab_kl, Ab_km]; omega
      have i1 : ix (jI (i : Int)) 8 = true := jx (by omega) (by omega) (by omega)
      have i2 : ix (jI (i : Int)) 9 = true := jx (by omega) (by omega) (by omega)
      have e1 : (jI (i : Int)).toNatClampNeg = i := by rw [jI_c (by omega) (by omega)]; omega
      have e2 : jI ((F + c : Nat) : Int) - 1 - jI ((F + p : Nat) : Int) = jI ((c - 1 - p : Nat) : Int) := by
        rw [show (1 : Int32) = jI 1 from rfl, jI_sub, jI_sub]; congr 1; omega
      have e3 : jI (c : Int) - 1 - jI p = jI ((c - 1 - p : Nat) : Int) := by
        rw [show (1 : Int32) = jI 1 from rfl, jI_sub, jI_sub]; congr 1; omega
      have e9 : jI ((F + p : Nat) : Int) + 1 = jI ((F + (p + 1) : Nat) : Int) := jI_add _ 1
      have e8 : jI (p : Int) + 1 = jI ((p + 1 : Nat) : Int) := jI_add _ 1
      have ht := sh_t (c - 1 - p) (by omega) row hrow
      have hap := (ha p hpc).2 (Nat.le_refl _)
      simp only [na, nb, if_false, i1, i2, e1, if_true, h7, h15, e2, e3, e9, e8]
      by_cases c1 : row.testBit (c - 1 - p) = true
      · have n1 := ht.mpr c1
        simp only [n1, if_true]
        have hsub : rest.testBit (c - 1 - p) = true := by
          have h2 : (row &&& rest).testBit (c - 1 - p) = true := by rw [hs]; exact c1
          rw [Nat.testBit_and] at h2
          simp at h2
          exact h2.2
        obtain ⟨pl3, m3, q1, q2, cs3, q3⟩ := cs_put cs hF hpc hb0 (show b < B.length by omega) hBl (hap.1.mp hsub) (fun q h1 h2 => ((ha q h2).2 (by omega)).2)
        have eb : md.1 5 - 1 = jI b := by rw [cs.br.m, show (1 : Int32) = jI 1 from rfl, jI_sub]; congr 1; omega
        rw [q1, eb, q2]
        simp only [bnd]
        obtain ⟨v, w, B2, asg2, pl2, m2, g1, g2, g3, g4, g5, g6⟩ := ih (p + 1) _ _ pl3 m3 (by omega) (by omega) (by rw [List.length_set]; exact hb) (by rw [List.length_set]; exact hBl) cs3 (by rw [q3 15 (by omega)]; exact h15) (fun q hq => by
          refine ⟨fun h1 => ?_, fun h1 => ?_⟩
          · by_cases eq : q = p
            · subst eq
              rw [if_pos rfl]
              exact ⟨fun _ => rfl, fun h => by rw [h] at c1; cases c1⟩
            · rw [if_neg eq]
              exact (ha q hq).1 (by omega)
          · rw [if_neg (by omega)]
            exact (ha q hq).2 (by omega))
        refine ⟨v, w, B2, asg2, pl2, m2, g1, g2, g3, by rw [g4, List.length_set], g5, fun j hj => by rw [g6 j hj, q3 j hj]⟩
      · have n1 : ¬ (jI (row : Int) >>> (jI ((c - 1 - p : Nat) : Int) &&& 31)) &&& 1 = 1 := fun h => c1 (ht.mp h)
        simp only [n1, if_false]
        exact ih (p + 1) B asg pl md (by omega) (by omega) hb hBl cs h15 (fun q hq => by
          refine ⟨fun h1 => ?_, fun h1 => (ha q hq).2 (by omega)⟩
          by_cases eq : q = p
          · subst eq
            exact ⟨fun h => absurd h c1, fun _ => hap⟩
          · exact (ha q hq).1 (by omega))
end CU
