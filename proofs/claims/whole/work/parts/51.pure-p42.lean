section SH
variable {a : Ab} {nl : Nat} {nT : Nat → Nat} {LS TS : Nat → MS} {FP : Nat → Bool} {FS : Nat → MS} {bc sg tr tu ff pl lw md : MS} {nS : Nat → Nat} {SS : Nat → MS}
def rgt (x : Nat → Nat) (k : Nat) : Prop := if k % 2 = 0 then k / 2 < 6 ∧ x k = 65 + k / 2 else isBend (x k)
theorem w_find (ok : Ok a) (s0 : sg.1 0 = jI a.sz) (st : ∀ k, k < a.sz → sg.2.1 0 k = jI (a.tx k)) {m2 : MS} (mt : ∀ k, k < a.sz → m2.2.1 0 k = jI (a.tx k)) : ∀ (n i : Nat), i ≤ a.sz → a.sz - i < n → (∀ j, j < i → rgt a.tx j) →
    ∃ w, w ≤ a.sz ∧ (∀ j, j < w → rgt a.tx j) ∧ (w < a.sz → ¬ rgt a.tx w) ∧ l_Sg_firstWrong_2 n (jI i) sg = some (if w < a.sz then jI w else if a.sz % 2 = 0 then jI a.sz else jI (-1)) ∧ l_Md_shape_14 (n + 1) (jI a.sz) (jI i) 1 m2 = some (jI w, if w < a.sz then 0 else 1) := by
  intro n
  have hs := ok.sz
  induction n with
  | zero => intro i _ h; omega
  | succ n ih =>
    intro i hi hn hr
    rw [l_Sg_firstWrong_2, l_Md_shape_14, s0]
    by_cases e : i = a.sz
    · refine ⟨i, hi, hr, fun h => by omega, ?_, ?_⟩
      · rw [if_pos (by rw [e]; exact Int32.le_refl _)]
        have hlt : ¬ i < a.sz := by omega
        simp only [hlt, if_false]
        have e1 : jI (a.sz : Int) - jI a.sz / 2 * 2 = jI ((a.sz % 2 : Nat) : Int) := by simp (disch := omega) only [jI_lit, jL_lit, jI_n, jI_add, jI_sub, jI_mul, jI_neg, jL_add, jL_sub, jL_mul, jL_neg, jI_lt, jI_le, jI_eq, jL_lt, jL_le, jL_eq, jI_c, jI_64, jL_32, jI_div, jL_div, jx, bnd, if_true, if_false, if_pos, if_neg, Int.toNat_natCast, Int.reduceToNat, Int.add_zero, Int.zero_add, Int.reduceAdd, Int.reduceSub, Int.reduceMul, Int.reduceNeg, Int.reduceLT, Int.reduceLE, jI_rem, sI_1, sI_2, sA_1, sA_2, sA_3, sL_1, sL_2, sL_3, upd_a, updL_a, vaup_a, Nat.reduceEqDiff, Ab_sz, Ab_tx, Ab_ns, Ab_sn, Ab_sx, Ab_ru, Ab_nl, Ab_lsh, Ab_ld, Ab_lm, Ab_lg, Ab_pd, Ab_px, Ab_py, Ab_pz, Ab_kn, Ab_kl, Ab_km]; congr 1
        rw [e1]
        by_cases c : a.sz % 2 = 0
        · rw [if_pos (by rw [c]; rfl), if_pos c]
        · rw [if_neg (by rw [show (0 : Int32) = jI 0 from rfl, jI_eq (by omega) (by omega) (by omega) (by omega)]; omega), if_neg c]; rfl
      · have hlt : ¬ i < a.sz := by omega
        simp only [hlt, if_false]
        rw [if_pos (by rw [e]; exact Int32.le_refl _)]
    · have hi' : i < a.sz := by omega
      have htx := ok.tx i hi'
      have nle : ¬ jI (a.sz : Int) ≤ jI i := by simp (disch := omega) only [jI_lit, jL_lit, jI_n, jI_add, jI_sub, jI_mul, jI_neg, jL_add, jL_sub, jL_mul, jL_neg, jI_lt, jI_le, jI_eq, jL_lt, jL_le, jL_eq, jI_c, jI_64, jL_32, jI_div, jL_div, jx, bnd, if_true, if_false, if_pos, if_neg, Int.toNat_natCast, Int.reduceToNat, Int.add_zero, Int.zero_add, Int.reduceAdd, Int.reduceSub, Int.reduceMul, Int.reduceNeg, Int.reduceLT, Int.reduceLE, jI_rem, sI_1, sI_2, sA_1, sA_2, sA_3, sL_1, sL_2, sL_3, upd_a, updL_a, vaup_a, Nat.reduceEqDiff, Ab_sz, Ab_tx, Ab_ns, Ab_sn, Ab_sx, Ab_ru, Ab_nl, Ab_lsh, Ab_ld, Ab_lm, Ab_lg, Ab_pd, Ab_px, Ab_py, Ab_pz, Ab_kn, Ab_kl, Ab_km]; omega
      have i1 : ix (jI (i : Int)) 40 = true := jx (by omega) (by omega) (by omega)
      have c1 : (jI (i : Int)).toNatClampNeg = i := by rw [jI_c (by omega) (by omega)]; omega
      have e1 : jI (i : Int) - jI ((i / 2 : Nat) : Int) * 2 = jI ((i % 2 : Nat) : Int) := by rw [show (2 : Int32) = jI 2 from rfl, jI_mul, jI_sub]; congr 1; omega
      have e2 : jI (i : Int) / 2 = jI ((i / 2 : Nat) : Int) := by simp (disch := omega) only [jI_lit, jL_lit, jI_n, jI_add, jI_sub, jI_mul, jI_neg, jL_add, jL_sub, jL_mul, jL_neg, jI_lt, jI_le, jI_eq, jL_lt, jL_le, jL_eq, jI_c, jI_64, jL_32, jI_div, jL_div, jx, bnd, if_true, if_false, if_pos, if_neg, Int.toNat_natCast, Int.reduceToNat, Int.add_zero, Int.zero_add, Int.reduceAdd, Int.reduceSub, Int.reduceMul, Int.reduceNeg, Int.reduceLT, Int.reduceLE, jI_rem, sI_1, sI_2, sA_1, sA_2, sA_3, sL_1, sL_2, sL_3, upd_a, updL_a, vaup_a, Nat.reduceEqDiff, Ab_sz, Ab_tx, Ab_ns, Ab_sn, Ab_sx, Ab_ru, Ab_nl, Ab_lsh, Ab_ld, Ab_lm, Ab_lg, Ab_pd, Ab_px, Ab_py, Ab_pz, Ab_kn, Ab_kl, Ab_km]; rfl
      have e8 : jI (i : Int) + 1 = jI ((i + 1 : Nat) : Int) := jI_add _ 1
      simp only [nle, if_false, i1, c1, if_true, e1, e2, st i hi', mt i hi', e8, show ¬ (1 : Int32) = 0 by decide]
      have good : rgt a.tx i → ∃ w, w ≤ a.sz ∧ (∀ j, j < w → rgt a.tx j) ∧ (w < a.sz → ¬ rgt a.tx w) ∧ l_Sg_firstWrong_2 n (jI ((i + 1 : Nat) : Int)) sg = some (if w < a.sz then jI w else if a.sz % 2 = 0 then jI a.sz else jI (-1)) ∧ l_Md_shape_14 (n + 1) (jI a.sz) (jI ((i + 1 : Nat) : Int)) 1 m2 = some (jI w, if w < a.sz then 0 else 1) := fun h => ih (i + 1) (by omega) (by omega) (fun j hj => by
        by_cases ej : j = i
        · subst ej; exact h
        · exact hr j (by omega))
      have bad : ¬ rgt a.tx i → ∀ q : Int32, q = 0 → ∃ w, w ≤ a.sz ∧ (∀ j, j < w → rgt a.tx j) ∧ (w < a.sz → ¬ rgt a.tx w) ∧ some (jI (i : Int)) = some (if w < a.sz then jI w else if a.sz % 2 = 0 then jI a.sz else jI (-1)) ∧ ((some (jI (i : Int) + 0) : Option Int32).bind fun v15 => l_Md_shape_14 (n + 1) (jI a.sz) v15 q m2) = some (jI w, if w < a.sz then 0 else 1) := fun h q hq => by
        refine ⟨i, hi, hr, fun _ => h, by rw [if_pos hi'], ?_⟩
        rw [bnd, show jI (i : Int) + 0 = jI i from by rw [show (0 : Int32) = jI 0 from rfl, jI_add, Int.add_zero], l_Md_shape_14, hq, if_pos hi']
        simp only [nle, if_false, if_true]
      by_cases ce : i % 2 = 0
      · have n1 : jI ((i % 2 : Nat) : Int) = 0 := by rw [ce]; rfl
        simp only [n1, if_true]
        unfold f_Sg_isLeg
        by_cases c6 : 6 ≤ i / 2
        · have n2 : (6 : Int32) ≤ jI ((i / 2 : Nat) : Int) := by simp (disch := omega) only [jI_lit, jL_lit, jI_n, jI_add, jI_sub, jI_mul, jI_neg, jL_add, jL_sub, jL_mul, jL_neg, jI_lt, jI_le, jI_eq, jL_lt, jL_le, jL_eq, jI_c, jI_64, jL_32, jI_div, jL_div, jx, bnd, if_true, if_false, if_pos, if_neg, Int.toNat_natCast, Int.reduceToNat, Int.add_zero, Int.zero_add, Int.reduceAdd, Int.reduceSub, Int.reduceMul, Int.reduceNeg, Int.reduceLT, Int.reduceLE, jI_rem, sI_1, sI_2, sA_1, sA_2, sA_3, sL_1, sL_2, sL_3, upd_a, updL_a, vaup_a, Nat.reduceEqDiff, Ab_sz, Ab_tx, Ab_ns, Ab_sn, Ab_sx, Ab_ru, Ab_nl, Ab_lsh, Ab_ld, Ab_lm, Ab_lg, Ab_pd, Ab_px, Ab_py, Ab_pz, Ab_kn, Ab_kl, Ab_km]; omega
          simp only [n2, if_true, bnd]
          exact bad (by unfold rgt; rw [if_pos ce]; omega) 0 rfl
        · have n2 : ¬ (6 : Int32) ≤ jI ((i / 2 : Nat) : Int) := by simp (disch := omega) only [jI_lit, jL_lit, jI_n, jI_add, jI_sub, jI_mul, jI_neg, jL_add, jL_sub, jL_mul, jL_neg, jI_lt, jI_le, jI_eq, jL_lt, jL_le, jL_eq, jI_c, jI_64, jL_32, jI_div, jL_div, jx, bnd, if_true, if_false, if_pos, if_neg, Int.toNat_natCast, Int.reduceToNat, Int.add_zero, Int.zero_add, Int.reduceAdd, Int.reduceSub, Int.reduceMul, Int.reduceNeg, Int.reduceLT, Int.reduceLE, jI_rem, sI_1, sI_2, sA_1, sA_2, sA_3, sL_1, sL_2, sL_3, upd_a, updL_a, vaup_a, Nat.reduceEqDiff, Ab_sz, Ab_tx, Ab_ns, Ab_sn, Ab_sx, Ab_ru, Ab_nl, Ab_lsh, Ab_ld, Ab_lm, Ab_lg, Ab_pd, Ab_px, Ab_py, Ab_pz, Ab_kn, Ab_kl, Ab_km]; omega
          have e5 : (65 : Int32) + jI ((i / 2 : Nat) : Int) = jI ((65 + i / 2 : Nat) : Int) := jI_add 65 _
          simp only [n2, if_false, e5]
          by_cases cc : a.tx i = 65 + i / 2
          · have n3 : jI (a.tx i : Int) = jI ((65 + i / 2 : Nat) : Int) := by rw [cc]
            simp only [n3, if_true, bnd, show ¬ (1 : Int32) = 0 by decide, if_false]
            exact good (by unfold rgt; rw [if_pos ce]; exact ⟨by omega, cc⟩)
          · have n3 : ¬ jI (a.tx i : Int) = jI ((65 + i / 2 : Nat) : Int) := by rw [jI_eq (by omega) (by omega) (by omega) (by omega)]; omega
            simp only [n3, if_false, bnd, if_true]
            exact bad (by unfold rgt; rw [if_pos ce]; exact fun h => cc h.2) 0 rfl
      · have n1 : ¬ jI ((i % 2 : Nat) : Int) = 0 := by rw [show (0 : Int32) = jI 0 from rfl, jI_eq (by omega) (by omega) (by omega) (by omega)]; omega
        simp only [n1, if_false]
        have hq : f_Sg_quartersOf (jI (a.tx i)) = some (jI (qv (a.tx i))) := by
          unfold f_Sg_quartersOf qv
          by_cases k1 : a.tx i = 76
          · rw [k1]; rfl
          · by_cases k2 : a.tx i = 82
            · rw [k2]; rfl
            · by_cases k3 : a.tx i = 85
              · rw [k3]; rfl
              · simp (disch := omega) only [jI_lit, jL_lit, jI_n, jI_add, jI_sub, jI_mul, jI_neg, jL_add, jL_sub, jL_mul, jL_neg, jI_lt, jI_le, jI_eq, jL_lt, jL_le, jL_eq, jI_c, jI_64, jL_32, jI_div, jL_div, jx, bnd, if_true, if_false, if_pos, if_neg, Int.toNat_natCast, Int.reduceToNat, Int.add_zero, Int.zero_add, Int.reduceAdd, Int.reduceSub, Int.reduceMul, Int.reduceNeg, Int.reduceLT, Int.reduceLE, jI_rem, sI_1, sI_2, sA_1, sA_2, sA_3, sL_1, sL_2, sL_3, upd_a, updL_a, vaup_a, Nat.reduceEqDiff, Ab_sz, Ab_tx, Ab_ns, Ab_sn, Ab_sx, Ab_ru, Ab_nl, Ab_lsh, Ab_ld, Ab_lm, Ab_lg, Ab_pd, Ab_px, Ab_py, Ab_pz, Ab_kn, Ab_kl, Ab_km]; rfl
        have hb : f_Md_bendOf (jI (a.tx i)) = some (jI (bendC (a.tx i))) := by
          unfold f_Md_bendOf bendC
          by_cases k1 : a.tx i = 76
          · rw [k1]; rfl
          · by_cases k2 : a.tx i = 82
            · rw [k2]; rfl
            · by_cases k3 : a.tx i = 85
              · rw [k3]; rfl
              · simp (disch := omega) only [jI_lit, jL_lit, jI_n, jI_add, jI_sub, jI_mul, jI_neg, jL_add, jL_sub, jL_mul, jL_neg, jI_lt, jI_le, jI_eq, jL_lt, jL_le, jL_eq, jI_c, jI_64, jL_32, jI_div, jL_div, jx, bnd, if_true, if_false, if_pos, if_neg, Int.toNat_natCast, Int.reduceToNat, Int.add_zero, Int.zero_add, Int.reduceAdd, Int.reduceSub, Int.reduceMul, Int.reduceNeg, Int.reduceLT, Int.reduceLE, jI_rem, sI_1, sI_2, sA_1, sA_2, sA_3, sL_1, sL_2, sL_3, upd_a, updL_a, vaup_a, Nat.reduceEqDiff, Ab_sz, Ab_tx, Ab_ns, Ab_sn, Ab_sx, Ab_ru, Ab_nl, Ab_lsh, Ab_ld, Ab_lm, Ab_lg, Ab_pd, Ab_px, Ab_py, Ab_pz, Ab_kn, Ab_kl, Ab_km]; rfl
        rw [hq, hb]
        by_cases cb : isBend (a.tx i)
        · have n2 : ¬ jI (qv (a.tx i) : Int) ≤ 0 := by rcases cb with h | h | h <;> rw [h] <;> decide
          have n3 : ¬ jI (bendC (a.tx i) : Int) ≤ 0 := by rcases cb with h | h | h <;> rw [h] <;> decide
          simp only [n2, n3, if_false, bnd, show ¬ (1 : Int32) = 0 by decide]
          exact good (by unfold rgt; rw [if_neg ce]; exact cb)
        · have h1 : qv (a.tx i) = 0 := by unfold qv; unfold isBend at cb; (repeat' split) <;> omega
          have h2 : bendC (a.tx i) = 0 := by unfold bendC; unfold isBend at cb; (repeat' split) <;> omega
          rw [h1, h2]
          simp only [show jI ((0 : Nat) : Int) ≤ (0 : Int32) by decide, if_true, bnd]
          exact bad (by unfold rgt; rw [if_neg ce]; exact cb) 0 rfl
end SH
theorem nar_c2 : ∀ k : Nat, k < 127 → vp_nar .char (jI k) = jI k := by decide +kernel
section SH
variable {a b : Ab} {nl : Nat} {nT : Nat → Nat} {LS TS : Nat → MS} {FP : Nat → Bool} {FS : Nat → MS} {bc sg tr tu ff pl lw md m2 : MS} {nS : Nat → Nat} {SS : Nat → MS}
theorem sumL_c {f g : Nat → Nat} {p q : Nat → Bool} : ∀ n, (∀ i, i < n → f i = g i ∧ p i = q i) → sumL f p n = sumL g q n := by
  intro n
  induction n with
  | zero => intro _; rfl
  | succ n ih =>
    intro h
    simp only [sumL]
    rw [ih (fun i hi => h i (by omega)), (h n (by omega)).1, (h n (by omega)).2]
theorem PL.move (h : PL a pl md) (h1 : b.nl = a.nl) (h2 : ∀ i, i < a.nl → b.lm i = a.lm i ∧ b.ld i = a.ld i ∧ cutLen b i = cutLen a i) (m1 : ∀ k, 4 ≤ k → k < 8 → m2.1 k = md.1 k) (m3 : ∀ k, 16 ≤ k → k < 19 → m2.2.1 k = md.2.1 k) (m4 : ∀ k, 7 ≤ k → k < 9 → m2.2.2 k = md.2.2 k) : PL b pl m2 := by
  rcases h with ⟨q1, q2⟩ | ⟨q1, q2, B, Q, nd, ne, ps⟩
  · exact Or.inl ⟨q1, by rw [m1 4 (by omega) (by omega)]; exact q2⟩
  · refine Or.inr ⟨q1, by rw [m1 4 (by omega) (by omega)]; exact q2, B, Q, nd, ne, ?_⟩
    refine ⟨ps.q0, fun q x hx => by rw [h1]; exact ps.qt q x hx, ⟨ps.br.n, by rw [m1 5 (by omega) (by omega)]; exact ps.br.m, fun y x hx => by rw [m3 16 (by omega) (by omega), m3 17 (by omega) (by omega), m4 7 (by omega) (by omega), m4 8 (by omega) (by omega)]; exact ps.br.t y x hx, fun y x hx => by rw [m3 18 (by omega) (by omega)]; exact ps.br.l y x hx, ps.br.lb⟩, ps.bl, ps.ls, ps.zb, ?_, ?_, ps.c2, ps.c3, by rw [m1 6 (by omega) (by omega)]; exact ps.m6, by rw [m1 7 (by omega) (by omega)]; exact ps.m7⟩
    · rw [ps.ct, h1]
      exact sumL_c a.nl (fun i hi => ⟨(h2 i hi).1.symm, by simp only [ltD]; rw [(h2 i hi).2.1]⟩)
    · rw [ps.sm, h1]
      exact sumL_c a.nl (fun i hi => ⟨by simp only [lmc]; rw [(h2 i hi).1, (h2 i hi).2.2], by simp only [ltD]; rw [(h2 i hi).2.1]⟩)
theorem c_toL (hs : a.sz ≤ 11) (hb : ∀ k, k < a.sz → 32 ≤ a.tx k ∧ a.tx k ≤ 126) (s0 : sg.1 0 = jI a.sz) (st : ∀ k, k < a.sz → sg.2.1 0 k = jI (a.tx k)) : ∀ (n i : Nat) (tx : MS), i ≤ a.sz → a.sz - i < n → (∀ k, k < i → tx.2.1 0 k = jI (a.tx k)) →
    ∃ v t2, l_Sg_toShape_11 n (jI (qsum a.tx (i / 2))) (jI i) a.sz sg tx = some (jI (qsum a.tx (a.sz / 2)), v, t2) ∧ (∀ k, k < a.sz → t2.2.1 0 k = jI (a.tx k)) := by
  intro n
  induction n with
  | zero => intro i tx _ h; omega
  | succ n ih =>
    intro i tx hi hn ht
    rw [l_Sg_toShape_11, s0]
    by_cases e : i = a.sz
    · subst e
      rw [if_pos (Int32.le_refl _)]
      exact ⟨_, tx, rfl, ht⟩
    · have hi' : i < a.sz := by omega
      have htx := hb i hi'
      have hq2 := qsum_le a.tx (i / 2)
      have nle : ¬ jI (a.sz : Int) ≤ jI i := by simp (disch := omega) only [jI_lit, jL_lit, jI_n, jI_add, jI_sub, jI_mul, jI_neg, jL_add, jL_sub, jL_mul, jL_neg, jI_lt, jI_le, jI_eq, jL_lt, jL_le, jL_eq, jI_c, jI_64, jL_32, jI_div, jL_div, jx, bnd, if_true, if_false, if_pos, if_neg, Int.toNat_natCast, Int.reduceToNat, Int.add_zero, Int.zero_add, Int.reduceAdd, Int.reduceSub, Int.reduceMul, Int.reduceNeg, Int.reduceLT, Int.reduceLE, jI_rem, sI_1, sI_2, sA_1, sA_2, sA_3, sL_1, sL_2, sL_3, upd_a, updL_a, vaup_a, Nat.reduceEqDiff, Ab_sz, Ab_tx, Ab_ns, Ab_sn, Ab_sx, Ab_ru, Ab_nl, Ab_lsh, Ab_ld, Ab_lm, Ab_lg, Ab_pd, Ab_px, Ab_py, Ab_pz, Ab_kn, Ab_kl, Ab_km]; omega
      have i1 : ix (jI (i : Int)) 40 = true := jx (by omega) (by omega) (by omega)
      have i2 : ix (jI (i : Int)) a.sz = true := jx (by omega) (by omega) (by omega)
      have c1 : (jI (i : Int)).toNatClampNeg = i := by rw [jI_c (by omega) (by omega)]; omega
      have e1 : jI (i : Int) - jI i / 2 * 2 = jI ((i % 2 : Nat) : Int) := by simp (disch := omega) only [jI_lit, jL_lit, jI_n, jI_add, jI_sub, jI_mul, jI_neg, jL_add, jL_sub, jL_mul, jL_neg, jI_lt, jI_le, jI_eq, jL_lt, jL_le, jL_eq, jI_c, jI_64, jL_32, jI_div, jL_div, jx, bnd, if_true, if_false, if_pos, if_neg, Int.toNat_natCast, Int.reduceToNat, Int.add_zero, Int.zero_add, Int.reduceAdd, Int.reduceSub, Int.reduceMul, Int.reduceNeg, Int.reduceLT, Int.reduceLE, jI_rem, sI_1, sI_2, sA_1, sA_2, sA_3, sL_1, sL_2, sL_3, upd_a, updL_a, vaup_a, Nat.reduceEqDiff, Ab_sz, Ab_tx, Ab_ns, Ab_sn, Ab_sx, Ab_ru, Ab_nl, Ab_lsh, Ab_ld, Ab_lm, Ab_lg, Ab_pd, Ab_px, Ab_py, Ab_pz, Ab_kn, Ab_kl, Ab_km]; congr 1
      have e8 : jI (i : Int) + 1 = jI ((i + 1 : Nat) : Int) := jI_add _ 1
      simp only [nle, if_false, i1, i2, c1, if_true, e1, st i hi', e8, bnd, nar_c2 (a.tx i) (by omega)]
      obtain ⟨v, t2, g1, g2⟩ := ih (i + 1) (sA tx 0 (upd (tx.2.1 0) i (jI (a.tx i)))) (by omega) (by omega) (fun k hk => by
        by_cases ek : k = i
        · subst ek; simp (disch := omega) only [jI_lit, jL_lit, jI_n, jI_add, jI_sub, jI_mul, jI_neg, jL_add, jL_sub, jL_mul, jL_neg, jI_lt, jI_le, jI_eq, jL_lt, jL_le, jL_eq, jI_c, jI_64, jL_32, jI_div, jL_div, jx, bnd, if_true, if_false, if_pos, if_neg, Int.toNat_natCast, Int.reduceToNat, Int.add_zero, Int.zero_add, Int.reduceAdd, Int.reduceSub, Int.reduceMul, Int.reduceNeg, Int.reduceLT, Int.reduceLE, jI_rem, sI_1, sI_2, sA_1, sA_2, sA_3, sL_1, sL_2, sL_3, upd_a, updL_a, vaup_a, Nat.reduceEqDiff, Ab_sz, Ab_tx, Ab_ns, Ab_sn, Ab_sx, Ab_ru, Ab_nl, Ab_lsh, Ab_ld, Ab_lm, Ab_lg, Ab_pd, Ab_px, Ab_py, Ab_pz, Ab_kn, Ab_kl, Ab_km]
        · simp (disch := omega) only [jI_lit, jL_lit, jI_n, jI_add, jI_sub, jI_mul, jI_neg, jL_add, jL_sub, jL_mul, jL_neg, jI_lt, jI_le, jI_eq, jL_lt, jL_le, jL_eq, jI_c, jI_64, jL_32, jI_div, jL_div, jx, bnd, if_true, if_false, if_pos, if_neg, Int.toNat_natCast, Int.reduceToNat, Int.add_zero, Int.zero_add, Int.reduceAdd, Int.reduceSub, Int.reduceMul, Int.reduceNeg, Int.reduceLT, Int.reduceLE, jI_rem, sI_1, sI_2, sA_1, sA_2, sA_3, sL_1, sL_2, sL_3, upd_a, updL_a, vaup_a, Nat.reduceEqDiff, Ab_sz, Ab_tx, Ab_ns, Ab_sn, Ab_sx, Ab_ru, Ab_nl, Ab_lsh, Ab_ld, Ab_lm, Ab_lg, Ab_pd, Ab_px, Ab_py, Ab_pz, Ab_kn, Ab_kl, Ab_km]; exact ht k (by omega))
      refine ⟨v, t2, ?_, g2⟩
      by_cases ce : i % 2 = 0
      · have n1 : jI ((i % 2 : Nat) : Int) = 0 := by rw [ce]; rfl
        rw [show (i + 1) / 2 = i / 2 from by omega] at g1
        simp only [n1, if_true]
        rw [show jI ((qsum a.tx (i / 2) : Nat) : Int) + 0 = jI (qsum a.tx (i / 2)) from by rw [show (0 : Int32) = jI 0 from rfl, jI_add, Int.add_zero]]
        exact g1
      · have n1 : ¬ jI ((i % 2 : Nat) : Int) = 0 := by rw [show (0 : Int32) = jI 0 from rfl, jI_eq (by omega) (by omega) (by omega) (by omega)]; omega
        rw [show (i + 1) / 2 = i / 2 + 1 from by omega] at g1
        simp only [qsum, show 2 * (i / 2) + 1 = i by omega] at g1
        have hq : f_Sg_quartersOf (jI (a.tx i)) = some (jI (qv (a.tx i))) := by
          unfold f_Sg_quartersOf qv
          by_cases k1 : a.tx i = 76
          · rw [k1]; rfl
          · by_cases k2 : a.tx i = 82
            · rw [k2]; rfl
            · by_cases k3 : a.tx i = 85
              · rw [k3]; rfl
              · simp (disch := omega) only [jI_lit, jL_lit, jI_n, jI_add, jI_sub, jI_mul, jI_neg, jL_add, jL_sub, jL_mul, jL_neg, jI_lt, jI_le, jI_eq, jL_lt, jL_le, jL_eq, jI_c, jI_64, jL_32, jI_div, jL_div, jx, bnd, if_true, if_false, if_pos, if_neg, Int.toNat_natCast, Int.reduceToNat, Int.add_zero, Int.zero_add, Int.reduceAdd, Int.reduceSub, Int.reduceMul, Int.reduceNeg, Int.reduceLT, Int.reduceLE, jI_rem, sI_1, sI_2, sA_1, sA_2, sA_3, sL_1, sL_2, sL_3, upd_a, updL_a, vaup_a, Nat.reduceEqDiff, Ab_sz, Ab_tx, Ab_ns, Ab_sn, Ab_sx, Ab_ru, Ab_nl, Ab_lsh, Ab_ld, Ab_lm, Ab_lg, Ab_pd, Ab_px, Ab_py, Ab_pz, Ab_kn, Ab_kl, Ab_km]; rfl
        simp only [n1, if_false, hq, bnd]
        rw [show jI ((qsum a.tx (i / 2) : Nat) : Int) + jI (qv (a.tx i)) = jI ((qsum a.tx (i / 2) + qv (a.tx i) : Nat) : Int) from jI_add _ _]
        exact g1
theorem m_bendL (hs : a.sz ≤ 11) (hns : a.ns < 10) (hb : ∀ k, k < a.sz → 32 ≤ a.tx k ∧ a.tx k ≤ 126) (y2 y3 : Int32) : ∀ (n j : Nat) (md : MS), a.sz - (2 * j + 1) < n → (2 * j + 1 ≤ a.sz) → md.1 1 = jI a.ns → (∀ k, k < a.sz → md.2.1 0 k = jI (a.tx k)) → (∀ k, k < j → md.2.1 2 (6 * a.ns + k) = jI (bendC (a.tx (2 * k + 1)))) →
    ∃ v m2, l_Md_shape_133 n (jI a.sz) y2 y3 (jI ((2 * j + 1 : Nat) : Int)) md = some (v, m2) ∧ m2.1 = md.1 ∧ m2.2.2 = md.2.2 ∧ (∀ k, k ≠ 2 → m2.2.1 k = md.2.1 k) ∧ (∀ k, 2 * k + 1 < a.sz → m2.2.1 2 (6 * a.ns + k) = jI (bendC (a.tx (2 * k + 1)))) ∧ (∀ q, q < 6 * a.ns → m2.2.1 2 q = md.2.1 2 q) := by
  intro n
  induction n with
  | zero => intro j md h; omega
  | succ n ih =>
    intro j md hn hj s1 mt mb
    rw [l_Md_shape_133]
    by_cases e : a.sz ≤ 2 * j + 1
    · rw [if_pos (by simp (disch := omega) only [jI_lit, jL_lit, jI_n, jI_add, jI_sub, jI_mul, jI_neg, jL_add, jL_sub, jL_mul, jL_neg, jI_lt, jI_le, jI_eq, jL_lt, jL_le, jL_eq, jI_c, jI_64, jL_32, jI_div, jL_div, jx, bnd, if_true, if_false, if_pos, if_neg, Int.toNat_natCast, Int.reduceToNat, Int.add_zero, Int.zero_add, Int.reduceAdd, Int.reduceSub, Int.reduceMul, Int.reduceNeg, Int.reduceLT, Int.reduceLE, jI_rem, sI_1, sI_2, sA_1, sA_2, sA_3, sL_1, sL_2, sL_3, upd_a, updL_a, vaup_a, Nat.reduceEqDiff, Ab_sz, Ab_tx, Ab_ns, Ab_sn, Ab_sx, Ab_ru, Ab_nl, Ab_lsh, Ab_ld, Ab_lm, Ab_lg, Ab_pd, Ab_px, Ab_py, Ab_pz, Ab_kn, Ab_kl, Ab_km]; omega)]
      exact ⟨_, md, rfl, rfl, rfl, fun _ _ => rfl, fun k hk => mb k (by omega), fun _ _ => rfl⟩
    · have hj' : 2 * j + 1 < a.sz := by omega
      have htx := hb (2 * j + 1) hj'
      have nle : ¬ jI (a.sz : Int) ≤ jI ((2 * j + 1 : Nat) : Int) := by simp (disch := omega) only [jI_lit, jL_lit, jI_n, jI_add, jI_sub, jI_mul, jI_neg, jL_add, jL_sub, jL_mul, jL_neg, jI_lt, jI_le, jI_eq, jL_lt, jL_le, jL_eq, jI_c, jI_64, jL_32, jI_div, jL_div, jx, bnd, if_true, if_false, if_pos, if_neg, Int.toNat_natCast, Int.reduceToNat, Int.add_zero, Int.zero_add, Int.reduceAdd, Int.reduceSub, Int.reduceMul, Int.reduceNeg, Int.reduceLT, Int.reduceLE, jI_rem, sI_1, sI_2, sA_1, sA_2, sA_3, sL_1, sL_2, sL_3, upd_a, updL_a, vaup_a, Nat.reduceEqDiff, Ab_sz, Ab_tx, Ab_ns, Ab_sn, Ab_sx, Ab_ru, Ab_nl, Ab_lsh, Ab_ld, Ab_lm, Ab_lg, Ab_pd, Ab_px, Ab_py, Ab_pz, Ab_kn, Ab_kl, Ab_km]; omega
      have i1 : ix (jI ((2 * j + 1 : Nat) : Int)) 40 = true := jx (by omega) (by omega) (by omega)
      have c1 : (jI ((2 * j + 1 : Nat) : Int)).toNatClampNeg = 2 * j + 1 := by rw [jI_c (by omega) (by omega)]; omega
      have e2 : 6 * jI (a.ns : Int) + jI ((2 * j + 1 : Nat) : Int) / 2 = jI ((6 * a.ns + j : Nat) : Int) := by simp (disch := omega) only [jI_lit, jL_lit, jI_n, jI_add, jI_sub, jI_mul, jI_neg, jL_add, jL_sub, jL_mul, jL_neg, jI_lt, jI_le, jI_eq, jL_lt, jL_le, jL_eq, jI_c, jI_64, jL_32, jI_div, jL_div, jx, bnd, if_true, if_false, if_pos, if_neg, Int.toNat_natCast, Int.reduceToNat, Int.add_zero, Int.zero_add, Int.reduceAdd, Int.reduceSub, Int.reduceMul, Int.reduceNeg, Int.reduceLT, Int.reduceLE, jI_rem, sI_1, sI_2, sA_1, sA_2, sA_3, sL_1, sL_2, sL_3, upd_a, updL_a, vaup_a, Nat.reduceEqDiff, Ab_sz, Ab_tx, Ab_ns, Ab_sn, Ab_sx, Ab_ru, Ab_nl, Ab_lsh, Ab_ld, Ab_lm, Ab_lg, Ab_pd, Ab_px, Ab_py, Ab_pz, Ab_kn, Ab_kl, Ab_km]; congr 1; omega
      have i2 : ix (jI ((6 * a.ns + j : Nat) : Int)) 60 = true := jx (by omega) (by omega) (by omega)
      have c2 : (jI ((6 * a.ns + j : Nat) : Int)).toNatClampNeg = 6 * a.ns + j := by rw [jI_c (by omega) (by omega)]; omega
      have e8 : jI ((2 * j + 1 : Nat) : Int) + 2 = jI ((2 * (j + 1) + 1 : Nat) : Int) := by rw [show (2 : Int32) = jI 2 from rfl, jI_add]; congr 1
      have hbd : f_Md_bendOf (jI (a.tx (2 * j + 1))) = some (jI (bendC (a.tx (2 * j + 1)))) := by
        generalize a.tx (2 * j + 1) = t at htx
        unfold f_Md_bendOf bendC
        by_cases k1 : t = 76
        · rw [k1]; rfl
        · by_cases k2 : t = 82
          · rw [k2]; rfl
          · by_cases k3 : t = 85
            · rw [k3]; rfl
            · simp (disch := omega) only [jI_lit, jL_lit, jI_n, jI_add, jI_sub, jI_mul, jI_neg, jL_add, jL_sub, jL_mul, jL_neg, jI_lt, jI_le, jI_eq, jL_lt, jL_le, jL_eq, jI_c, jI_64, jL_32, jI_div, jL_div, jx, bnd, if_true, if_false, if_pos, if_neg, Int.toNat_natCast, Int.reduceToNat, Int.add_zero, Int.zero_add, Int.reduceAdd, Int.reduceSub, Int.reduceMul, Int.reduceNeg, Int.reduceLT, Int.reduceLE, jI_rem, sI_1, sI_2, sA_1, sA_2, sA_3, sL_1, sL_2, sL_3, upd_a, updL_a, vaup_a, Nat.reduceEqDiff, Ab_sz, Ab_tx, Ab_ns, Ab_sn, Ab_sx, Ab_ru, Ab_nl, Ab_lsh, Ab_ld, Ab_lm, Ab_lg, Ab_pd, Ab_px, Ab_py, Ab_pz, Ab_kn, Ab_kl, Ab_km]; rfl
      simp only [nle, if_false, i1, c1, if_true, mt _ hj', hbd, bnd, s1, e2, i2, c2, e8]
      by_cases e9 : a.sz ≤ 2 * (j + 1)
      · 
        obtain ⟨n, rfl⟩ : ∃ x, n = x + 1 := ⟨n - 1, by omega⟩
        rw [l_Md_shape_133, if_pos (by simp (disch := omega) only [jI_lit, jL_lit, jI_n, jI_add, jI_sub, jI_mul, jI_neg, jL_add, jL_sub, jL_mul, jL_neg, jI_lt, jI_le, jI_eq, jL_lt, jL_le, jL_eq, jI_c, jI_64, jL_32, jI_div, jL_div, jx, bnd, if_true, if_false, if_pos, if_neg, Int.toNat_natCast, Int.reduceToNat, Int.add_zero, Int.zero_add, Int.reduceAdd, Int.reduceSub, Int.reduceMul, Int.reduceNeg, Int.reduceLT, Int.reduceLE, jI_rem, sI_1, sI_2, sA_1, sA_2, sA_3, sL_1, sL_2, sL_3, upd_a, updL_a, vaup_a, Nat.reduceEqDiff, Ab_sz, Ab_tx, Ab_ns, Ab_sn, Ab_sx, Ab_ru, Ab_nl, Ab_lsh, Ab_ld, Ab_lm, Ab_lg, Ab_pd, Ab_px, Ab_py, Ab_pz, Ab_kn, Ab_kl, Ab_km]; omega)]
        refine ⟨_, _, rfl, rfl, rfl, fun k hk => by simp (disch := omega) only [jI_lit, jL_lit, jI_n, jI_add, jI_sub, jI_mul, jI_neg, jL_add, jL_sub, jL_mul, jL_neg, jI_lt, jI_le, jI_eq, jL_lt, jL_le, jL_eq, jI_c, jI_64, jL_32, jI_div, jL_div, jx, bnd, if_true, if_false, if_pos, if_neg, Int.toNat_natCast, Int.reduceToNat, Int.add_zero, Int.zero_add, Int.reduceAdd, Int.reduceSub, Int.reduceMul, Int.reduceNeg, Int.reduceLT, Int.reduceLE, jI_rem, sI_1, sI_2, sA_1, sA_2, sA_3, sL_1, sL_2, sL_3, upd_a, updL_a, vaup_a, Nat.reduceEqDiff, Ab_sz, Ab_tx, Ab_ns, Ab_sn, Ab_sx, Ab_ru, Ab_nl, Ab_lsh, Ab_ld, Ab_lm, Ab_lg, Ab_pd, Ab_px, Ab_py, Ab_pz, Ab_kn, Ab_kl, Ab_km], fun k hk => ?_, fun q hq => by simp (disch := omega) only [jI_lit, jL_lit, jI_n, jI_add, jI_sub, jI_mul, jI_neg, jL_add, jL_sub, jL_mul, jL_neg, jI_lt, jI_le, jI_eq, jL_lt, jL_le, jL_eq, jI_c, jI_64, jL_32, jI_div, jL_div, jx, bnd, if_true, if_false, if_pos, if_neg, Int.toNat_natCast, Int.reduceToNat, Int.add_zero, Int.zero_add, Int.reduceAdd, Int.reduceSub, Int.reduceMul, Int.reduceNeg, Int.reduceLT, Int.reduceLE, jI_rem, sI_1, sI_2, sA_1, sA_2, sA_3, sL_1, sL_2, sL_3, upd_a, updL_a, vaup_a, Nat.reduceEqDiff, Ab_sz, Ab_tx, Ab_ns, Ab_sn, Ab_sx, Ab_ru, Ab_nl, Ab_lsh, Ab_ld, Ab_lm, Ab_lg, Ab_pd, Ab_px, Ab_py, Ab_pz, Ab_kn, Ab_kl, Ab_km]⟩
        by_cases ek : k = j
        · subst ek; simp (disch := omega) only [jI_lit, jL_lit, jI_n, jI_add, jI_sub, jI_mul, jI_neg, jL_add, jL_sub, jL_mul, jL_neg, jI_lt, jI_le, jI_eq, jL_lt, jL_le, jL_eq, jI_c, jI_64, jL_32, jI_div, jL_div, jx, bnd, if_true, if_false, if_pos, if_neg, Int.toNat_natCast, Int.reduceToNat, Int.add_zero, Int.zero_add, Int.reduceAdd, Int.reduceSub, Int.reduceMul, Int.reduceNeg, Int.reduceLT, Int.reduceLE, jI_rem, sI_1, sI_2, sA_1, sA_2, sA_3, sL_1, sL_2, sL_3, upd_a, updL_a, vaup_a, Nat.reduceEqDiff, Ab_sz, Ab_tx, Ab_ns, Ab_sn, Ab_sx, Ab_ru, Ab_nl, Ab_lsh, Ab_ld, Ab_lm, Ab_lg, Ab_pd, Ab_px, Ab_py, Ab_pz, Ab_kn, Ab_kl, Ab_km]
        · simp (disch := omega) only [jI_lit, jL_lit, jI_n, jI_add, jI_sub, jI_mul, jI_neg, jL_add, jL_sub, jL_mul, jL_neg, jI_lt, jI_le, jI_eq, jL_lt, jL_le, jL_eq, jI_c, jI_64, jL_32, jI_div, jL_div, jx, bnd, if_true, if_false, if_pos, if_neg, Int.toNat_natCast, Int.reduceToNat, Int.add_zero, Int.zero_add, Int.reduceAdd, Int.reduceSub, Int.reduceMul, Int.reduceNeg, Int.reduceLT, Int.reduceLE, jI_rem, sI_1, sI_2, sA_1, sA_2, sA_3, sL_1, sL_2, sL_3, upd_a, updL_a, vaup_a, Nat.reduceEqDiff, Ab_sz, Ab_tx, Ab_ns, Ab_sn, Ab_sx, Ab_ru, Ab_nl, Ab_lsh, Ab_ld, Ab_lm, Ab_lg, Ab_pd, Ab_px, Ab_py, Ab_pz, Ab_kn, Ab_kl, Ab_km]; exact mb k (by omega)
      · obtain ⟨v, m2, g1, g2, g3, g4, g5, g6⟩ := ih (j + 1) (sA md 2 (upd (md.2.1 2) (6 * a.ns + j) (jI (bendC (a.tx (2 * j + 1)))))) (by omega) (by omega) s1 (fun k hk => by simp (disch := omega) only [jI_lit, jL_lit, jI_n, jI_add, jI_sub, jI_mul, jI_neg, jL_add, jL_sub, jL_mul, jL_neg, jI_lt, jI_le, jI_eq, jL_lt, jL_le, jL_eq, jI_c, jI_64, jL_32, jI_div, jL_div, jx, bnd, if_true, if_false, if_pos, if_neg, Int.toNat_natCast, Int.reduceToNat, Int.add_zero, Int.zero_add, Int.reduceAdd, Int.reduceSub, Int.reduceMul, Int.reduceNeg, Int.reduceLT, Int.reduceLE, jI_rem, sI_1, sI_2, sA_1, sA_2, sA_3, sL_1, sL_2, sL_3, upd_a, updL_a, vaup_a, Nat.reduceEqDiff, Ab_sz, Ab_tx, Ab_ns, Ab_sn, Ab_sx, Ab_ru, Ab_nl, Ab_lsh, Ab_ld, Ab_lm, Ab_lg, Ab_pd, Ab_px, Ab_py, Ab_pz, Ab_kn, Ab_kl, Ab_km]; exact mt k hk) (fun k hk => by
          by_cases ek : k = j
          · subst ek; simp (disch := omega) only [jI_lit, jL_lit, jI_n, jI_add, jI_sub, jI_mul, jI_neg, jL_add, jL_sub, jL_mul, jL_neg, jI_lt, jI_le, jI_eq, jL_lt, jL_le, jL_eq, jI_c, jI_64, jL_32, jI_div, jL_div, jx, bnd, if_true, if_false, if_pos, if_neg, Int.toNat_natCast, Int.reduceToNat, Int.add_zero, Int.zero_add, Int.reduceAdd, Int.reduceSub, Int.reduceMul, Int.reduceNeg, Int.reduceLT, Int.reduceLE, jI_rem, sI_1, sI_2, sA_1, sA_2, sA_3, sL_1, sL_2, sL_3, upd_a, updL_a, vaup_a, Nat.reduceEqDiff, Ab_sz, Ab_tx, Ab_ns, Ab_sn, Ab_sx, Ab_ru, Ab_nl, Ab_lsh, Ab_ld, Ab_lm, Ab_lg, Ab_pd, Ab_px, Ab_py, Ab_pz, Ab_kn, Ab_kl, Ab_km]
          · simp (disch := omega) only [jI_lit, jL_lit, jI_n, jI_add, jI_sub, jI_mul, jI_neg, jL_add, jL_sub, jL_mul, jL_neg, jI_lt, jI_le, jI_eq, jL_lt, jL_le, jL_eq, jI_c, jI_64, jL_32, jI_div, jL_div, jx, bnd, if_true, if_false, if_pos, if_neg, Int.toNat_natCast, Int.reduceToNat, Int.add_zero, Int.zero_add, Int.reduceAdd, Int.reduceSub, Int.reduceMul, Int.reduceNeg, Int.reduceLT, Int.reduceLE, jI_rem, sI_1, sI_2, sA_1, sA_2, sA_3, sL_1, sL_2, sL_3, upd_a, updL_a, vaup_a, Nat.reduceEqDiff, Ab_sz, Ab_tx, Ab_ns, Ab_sn, Ab_sx, Ab_ru, Ab_nl, Ab_lsh, Ab_ld, Ab_lm, Ab_lg, Ab_pd, Ab_px, Ab_py, Ab_pz, Ab_kn, Ab_kl, Ab_km]; exact mb k (by omega))
        exact ⟨v, m2, g1, g2, g3, fun k hk => by rw [g4 k hk]; simp (disch := omega) only [jI_lit, jL_lit, jI_n, jI_add, jI_sub, jI_mul, jI_neg, jL_add, jL_sub, jL_mul, jL_neg, jI_lt, jI_le, jI_eq, jL_lt, jL_le, jL_eq, jI_c, jI_64, jL_32, jI_div, jL_div, jx, bnd, if_true, if_false, if_pos, if_neg, Int.toNat_natCast, Int.reduceToNat, Int.add_zero, Int.zero_add, Int.reduceAdd, Int.reduceSub, Int.reduceMul, Int.reduceNeg, Int.reduceLT, Int.reduceLE, jI_rem, sI_1, sI_2, sA_1, sA_2, sA_3, sL_1, sL_2, sL_3, upd_a, updL_a, vaup_a, Nat.reduceEqDiff, Ab_sz, Ab_tx, Ab_ns, Ab_sn, Ab_sx, Ab_ru, Ab_nl, Ab_lsh, Ab_ld, Ab_lm, Ab_lg, Ab_pd, Ab_px, Ab_py, Ab_pz, Ab_kn, Ab_kl, Ab_km], g5, fun q hq => by rw [g6 q hq]; simp (disch := omega) only [jI_lit, jL_lit, jI_n, jI_add, jI_sub, jI_mul, jI_neg, jL_add, jL_sub, jL_mul, jL_neg, jI_lt, jI_le, jI_eq, jL_lt, jL_le, jL_eq, jI_c, jI_64, jL_32, jI_div, jL_div, jx, bnd, if_true, if_false, if_pos, if_neg, Int.toNat_natCast, Int.reduceToNat, Int.add_zero, Int.zero_add, Int.reduceAdd, Int.reduceSub, Int.reduceMul, Int.reduceNeg, Int.reduceLT, Int.reduceLE, jI_rem, sI_1, sI_2, sA_1, sA_2, sA_3, sL_1, sL_2, sL_3, upd_a, updL_a, vaup_a, Nat.reduceEqDiff, Ab_sz, Ab_tx, Ab_ns, Ab_sn, Ab_sx, Ab_ru, Ab_nl, Ab_lsh, Ab_ld, Ab_lm, Ab_lg, Ab_pd, Ab_px, Ab_py, Ab_pz, Ab_kn, Ab_kl, Ab_km]⟩
theorem rs_mk {n : Nat} {x : Nat → Nat} {t : MS} {g : Nat} (hn : n ≤ 11) (hg : g = qsum x ((n - 1) / 2)) (ht : ∀ k, k < n → t.2.1 0 k = jI (x k)) : RS n x (mkSh n t (jI g)) := by
  refine ⟨?_, ?_, ht⟩
  · show (Int32.ofNat n + 1) / 2 = _
    simp (disch := omega) only [jI_lit, jL_lit, jI_n, jI_add, jI_sub, jI_mul, jI_neg, jL_add, jL_sub, jL_mul, jL_neg, jI_lt, jI_le, jI_eq, jL_lt, jL_le, jL_eq, jI_c, jI_64, jL_32, jI_div, jL_div, jx, bnd, if_true, if_false, if_pos, if_neg, Int.toNat_natCast, Int.reduceToNat, Int.add_zero, Int.zero_add, Int.reduceAdd, Int.reduceSub, Int.reduceMul, Int.reduceNeg, Int.reduceLT, Int.reduceLE, jI_rem, sI_1, sI_2, sA_1, sA_2, sA_3, sL_1, sL_2, sL_3, upd_a, updL_a, vaup_a, Nat.reduceEqDiff, Ab_sz, Ab_tx, Ab_ns, Ab_sn, Ab_sx, Ab_ru, Ab_nl, Ab_lsh, Ab_ld, Ab_lm, Ab_lg, Ab_pd, Ab_px, Ab_py, Ab_pz, Ab_kn, Ab_kl, Ab_km]; rfl
  · show jI g = _; rw [hg]
end SH
section SH
variable {a b : Ab} {nl : Nat} {nT : Nat → Nat} {LS TS : Nat → MS} {FP : Nat → Bool} {FS : Nat → MS} {bc sg tr tu ff pl lw md m2 : MS} {nS : Nat → Nat} {SS : Nat → MS}
theorem rgt_12 {x : Nat → Nat} {n : Nat} (h : ∀ j, j < n → rgt x j) : n ≤ 12 := by
  by_cases c : n ≤ 12
  · exact c
  · have := h 12 (by omega)
    unfold rgt at this
    rw [if_pos rfl] at this
    omega
theorem sz0_ok (ok : Ok a) : Ok (Ab.mk (0) a.tx a.ns a.sn a.sx a.ru a.nl a.lsh a.ld a.lm a.lg a.pd a.px a.py a.pz a.kn a.kl a.km) := (Ok.mk (Nat.zero_le _) (fun k hk => by exact absurd hk (Nat.not_lt_zero k)) ok.ns ok.sn ok.sxe ok.sxo ok.ru ok.nl ok.lsh ok.ld ok.lm ok.lg ok.lz ok.px ok.py ok.pz ok.kn ok.kl ok.km)
theorem sz0_rc (rc : RC a nl nT LS TS FP FS bc sg) : RC (Ab.mk (0) a.tx a.ns a.sn a.sx a.ru a.nl a.lsh a.ld a.lm a.lg a.pd a.px a.py a.pz a.kn a.kl a.km) nl nT LS TS FP FS bc (sI sg 0 0) := (RC.mk rc.nl rc.c0 rc.c1 rc.ru (rfl) (fun k hk => absurd hk (Nat.not_lt_zero k)) rc.nT rc.ts (fun i hi => (RLn.mk (rc.ls i hi).sh (rc.ls i hi).di (rc.ls i hi).ma (rc.ls i hi).pd (rc.ls i hi).px (rc.ls i hi).py (rc.ls i hi).pz (rc.ls i hi).lg)) (fun d h1 h2 => (RF.mk (rc.fs d h1 h2).kn (rc.fs d h1 h2).kl (rc.fs d h1 h2).km)) rc.fn)
theorem sz0_rm (rm : RM a md) : RM (Ab.mk (0) a.tx a.ns a.sn a.sx a.ru a.nl a.lsh a.ld a.lm a.lg a.pd a.px a.py a.pz a.kn a.kl a.km) (sI md 0 0) := (RM.mk (rfl) rm.s1 rm.s2 (fun k hk => absurd hk (Nat.not_lt_zero k)) rm.lc rm.bn rm.sh rm.di rm.ma rm.pd rm.kn rm.km rm.ru rm.lg rm.px rm.py rm.pz rm.kl)
def shA (a : Ab) : Ab := (Ab.mk (0) a.tx (a.ns + 1) (va_up a.sn a.ns a.sz) (va_up a.sx a.ns a.tx) a.ru a.nl a.lsh a.ld a.lm a.lg a.pd a.px a.py a.pz a.kn a.kl a.km)
theorem x_shape (ok : Ok a) (rc : RC a nl nT LS TS FP FS bc sg) (rm : RM a md) (rs : RSs a nS SS) : ∃ r bc' sg' md' a' o, f_Bc_shape nl nT LS TS FP FS bc sg tr tu ff pl lw = some (r, bc', sg', tr, tu, ff, pl, lw, o) ∧ f_Md_shape md = some (r, md') ∧ Ok a' ∧ RC a' nl nT LS TS FP FS bc' sg' ∧ RM a' md' ∧ (PL a pl md → PL a' pl md') ∧
    ((o = none ∧ bc' = bc ∧ RSs a' nS SS ∧ a'.ns = a.ns) ∨ (∃ n S, o = some (n, S) ∧ a'.ns = a.ns + 1 ∧ a.ns < 10 ∧ (bc.1 0).toNatClampNeg = a.ns ∧ RSs a' (va_up nS a.ns n) (va_up SS a.ns S))) := by
  have hs := ok.sz
  have hns := ok.ns
  have e0 : jI ((0 : Nat) : Int) = 0 := rfl
  obtain ⟨w, w1, w2, w3, w4, w5⟩ := w_find ok rc.s0 rc.st (m2 := sI md 0 0) (fun k hk => rm.tx k hk) (999999999999999999 : Nat) 0 (by omega) (by omega) (fun j hj => by omega)
  have hfw : f_Sg_firstWrong sg = some (if w < a.sz then jI w else if a.sz % 2 = 0 then jI a.sz else jI (-1)) := by
    obtain ⟨w', v1, v2, v3, v4, v5⟩ := w_find ok rc.s0 rc.st (m2 := sI md 0 0) (fun k hk => rm.tx k hk) fu 0 (by omega) (by unfold fu; omega) (fun j hj => by omega)
    have : w' = w := by
      rcases Nat.lt_trichotomy w w' with h | h | h
      · exact absurd (v2 w h) (w3 (by omega))
      · exact h.symm
      · exact absurd (w2 w' h) (v3 (by omega))
    subst this
    exact v4
  have hms : l_Md_shape_14 fu (jI a.sz) 0 1 (sI md 0 0) = some (jI w, if w < a.sz then 0 else 1) := w5
  have plm : ∀ b : Ab, (b.nl = a.nl) → (∀ i, i < a.nl → b.lm i = a.lm i ∧ b.ld i = a.ld i ∧ cutLen b i = cutLen a i) → ∀ m2 : MS, (∀ k, 4 ≤ k → m2.1 k = md.1 k) → (∀ k, 3 ≤ k → m2.2.1 k = md.2.1 k) → m2.2.2 = md.2.2 → PL a pl md → PL b pl m2 := fun b h1 h2 m2 h3 h4 h5 h => h.move h1 h2 (fun k h6 _ => h3 k h6) (fun k h6 _ => h4 k (by omega)) (fun k _ _ => by rw [h5])
  have fail : ∀ k : Nat, k ≤ a.sz → f_Bc_shape nl nT LS TS FP FS bc sg tr tu ff pl lw = some (jI (-1 - k), bc, sI sg 0 0, tr, tu, ff, pl, lw, none) → f_Md_shape md = some (jI (-1 - k), sI md 0 0) → ∃ r bc' sg' md' a' o, f_Bc_shape nl nT LS TS FP FS bc sg tr tu ff pl lw = some (r, bc', sg', tr, tu, ff, pl, lw, o) ∧ f_Md_shape md = some (r, md') ∧ Ok a' ∧ RC a' nl nT LS TS FP FS bc' sg' ∧ RM a' md' ∧ (PL a pl md → PL a' pl md') ∧ ((o = none ∧ bc' = bc ∧ RSs a' nS SS ∧ a'.ns = a.ns) ∨ (∃ n S, o = some (n, S) ∧ a'.ns = a.ns + 1 ∧ a.ns < 10 ∧ (bc.1 0).toNatClampNeg = a.ns ∧ RSs a' (va_up nS a.ns n) (va_up SS a.ns S))) := fun k hk e1 e2 =>
    ⟨_, bc, sI sg 0 0, sI md 0 0, (Ab.mk (0) a.tx a.ns a.sn a.sx a.ru a.nl a.lsh a.ld a.lm a.lg a.pd a.px a.py a.pz a.kn a.kl a.km), none, e1, e2, sz0_ok ok, sz0_rc rc, sz0_rm rm, plm (Ab.mk (0) a.tx a.ns a.sn a.sx a.ru a.nl a.lsh a.ld a.lm a.lg a.pd a.px a.py a.pz a.kn a.kl a.km) rfl (fun i hi => ⟨rfl, rfl, rfl⟩) (sI md 0 0) (fun k hk => by simp (disch := omega) only [jI_lit, jL_lit, jI_n, jI_add, jI_sub, jI_mul, jI_neg, jL_add, jL_sub, jL_mul, jL_neg, jI_lt, jI_le, jI_eq, jL_lt, jL_le, jL_eq, jI_c, jI_64, jL_32, jI_div, jL_div, jx, bnd, if_true, if_false, if_pos, if_neg, Int.toNat_natCast, Int.reduceToNat, Int.add_zero, Int.zero_add, Int.reduceAdd, Int.reduceSub, Int.reduceMul, Int.reduceNeg, Int.reduceLT, Int.reduceLE, jI_rem, sI_1, sI_2, sA_1, sA_2, sA_3, sL_1, sL_2, sL_3, upd_a, updL_a, vaup_a, Nat.reduceEqDiff, Ab_sz, Ab_tx, Ab_ns, Ab_sn, Ab_sx, Ab_ru, Ab_nl, Ab_lsh, Ab_ld, Ab_lm, Ab_lg, Ab_pd, Ab_px, Ab_py, Ab_pz, Ab_kn, Ab_kl, Ab_km]) (fun k _ => rfl) rfl, Or.inl ⟨rfl, rfl, rs, rfl⟩⟩
  have ez : jI (a.sz : Int) - jI a.sz / 2 * 2 = jI ((a.sz % 2 : Nat) : Int) := by simp (disch := omega) only [jI_lit, jL_lit, jI_n, jI_add, jI_sub, jI_mul, jI_neg, jL_add, jL_sub, jL_mul, jL_neg, jI_lt, jI_le, jI_eq, jL_lt, jL_le, jL_eq, jI_c, jI_64, jL_32, jI_div, jL_div, jx, bnd, if_true, if_false, if_pos, if_neg, Int.toNat_natCast, Int.reduceToNat, Int.add_zero, Int.zero_add, Int.reduceAdd, Int.reduceSub, Int.reduceMul, Int.reduceNeg, Int.reduceLT, Int.reduceLE, jI_rem, sI_1, sI_2, sA_1, sA_2, sA_3, sL_1, sL_2, sL_3, upd_a, updL_a, vaup_a, Nat.reduceEqDiff, Ab_sz, Ab_tx, Ab_ns, Ab_sn, Ab_sx, Ab_ru, Ab_nl, Ab_lsh, Ab_ld, Ab_lm, Ab_lg, Ab_pd, Ab_px, Ab_py, Ab_pz, Ab_kn, Ab_kl, Ab_km]; congr 1
  by_cases c1 : w < a.sz
  · refine fail w w1 ?_ ?_
    · unfold f_Bc_shape
      rw [hfw, if_pos c1]
      have n1 : (0 : Int32) ≤ jI w := by simp (disch := omega) only [jI_lit, jL_lit, jI_n, jI_add, jI_sub, jI_mul, jI_neg, jL_add, jL_sub, jL_mul, jL_neg, jI_lt, jI_le, jI_eq, jL_lt, jL_le, jL_eq, jI_c, jI_64, jL_32, jI_div, jL_div, jx, bnd, if_true, if_false, if_pos, if_neg, Int.toNat_natCast, Int.reduceToNat, Int.add_zero, Int.zero_add, Int.reduceAdd, Int.reduceSub, Int.reduceMul, Int.reduceNeg, Int.reduceLT, Int.reduceLE, jI_rem, sI_1, sI_2, sA_1, sA_2, sA_3, sL_1, sL_2, sL_3, upd_a, updL_a, vaup_a, Nat.reduceEqDiff, Ab_sz, Ab_tx, Ab_ns, Ab_sn, Ab_sx, Ab_ru, Ab_nl, Ab_lsh, Ab_ld, Ab_lm, Ab_lg, Ab_pd, Ab_px, Ab_py, Ab_pz, Ab_kn, Ab_kl, Ab_km]; omega
      simp only [bnd, n1, if_true]
      rw [show (-1 : Int32) = jI (-1) from rfl, jI_sub]
    · unfold f_Md_shape
      rw [rm.s0]
      simp only [bnd]
      rw [hms, if_pos c1]
      simp only [bnd, if_true]
      rw [show (-1 : Int32) = jI (-1) from rfl, jI_sub]
  · have hw : w = a.sz := by omega
    subst hw
    rw [if_neg c1] at hfw hms
    by_cases c2 : a.sz % 2 = 0
    · refine fail a.sz (Nat.le_refl _) ?_ ?_
      · unfold f_Bc_shape
        rw [hfw, if_pos c2]
        have n1 : (0 : Int32) ≤ jI a.sz := by simp (disch := omega) only [jI_lit, jL_lit, jI_n, jI_add, jI_sub, jI_mul, jI_neg, jL_add, jL_sub, jL_mul, jL_neg, jI_lt, jI_le, jI_eq, jL_lt, jL_le, jL_eq, jI_c, jI_64, jL_32, jI_div, jL_div, jx, bnd, if_true, if_false, if_pos, if_neg, Int.toNat_natCast, Int.reduceToNat, Int.add_zero, Int.zero_add, Int.reduceAdd, Int.reduceSub, Int.reduceMul, Int.reduceNeg, Int.reduceLT, Int.reduceLE, jI_rem, sI_1, sI_2, sA_1, sA_2, sA_3, sL_1, sL_2, sL_3, upd_a, updL_a, vaup_a, Nat.reduceEqDiff, Ab_sz, Ab_tx, Ab_ns, Ab_sn, Ab_sx, Ab_ru, Ab_nl, Ab_lsh, Ab_ld, Ab_lm, Ab_lg, Ab_pd, Ab_px, Ab_py, Ab_pz, Ab_kn, Ab_kl, Ab_km]; omega
        simp only [bnd, n1, if_true]
        rw [show (-1 : Int32) = jI (-1) from rfl, jI_sub]
      · unfold f_Md_shape
        rw [rm.s0]
        simp only [bnd]
        rw [hms]
        simp only [bnd, show ¬ (1 : Int32) = 0 by decide, if_false, ez, c2, e0, if_true]
        rw [show (-1 : Int32) = jI (-1) from rfl, jI_sub]
    · have hz12 := rgt_12 w2
      rw [if_neg c2] at hfw
      have nz2 : ¬ jI ((a.sz % 2 : Nat) : Int) = 0 := by rw [show (0 : Int32) = jI 0 from rfl, jI_eq (by omega) (by omega) (by omega) (by omega)]; omega
      by_cases c3 : a.ns = 10
      · refine fail a.sz (Nat.le_refl _) ?_ ?_
        · unfold f_Bc_shape
          rw [hfw, rc.c0, rc.s0]
          have n1 : ¬ (0 : Int32) ≤ jI (-1) := by decide
          have n2 : (10 : Int32) ≤ jI a.ns := by simp (disch := omega) only [jI_lit, jL_lit, jI_n, jI_add, jI_sub, jI_mul, jI_neg, jL_add, jL_sub, jL_mul, jL_neg, jI_lt, jI_le, jI_eq, jL_lt, jL_le, jL_eq, jI_c, jI_64, jL_32, jI_div, jL_div, jx, bnd, if_true, if_false, if_pos, if_neg, Int.toNat_natCast, Int.reduceToNat, Int.add_zero, Int.zero_add, Int.reduceAdd, Int.reduceSub, Int.reduceMul, Int.reduceNeg, Int.reduceLT, Int.reduceLE, jI_rem, sI_1, sI_2, sA_1, sA_2, sA_3, sL_1, sL_2, sL_3, upd_a, updL_a, vaup_a, Nat.reduceEqDiff, Ab_sz, Ab_tx, Ab_ns, Ab_sn, Ab_sx, Ab_ru, Ab_nl, Ab_lsh, Ab_ld, Ab_lm, Ab_lg, Ab_pd, Ab_px, Ab_py, Ab_pz, Ab_kn, Ab_kl, Ab_km]; omega
          simp only [bnd, n1, n2, if_true, if_false]
          rw [show (-1 : Int32) = jI (-1) from rfl, jI_sub]
        · unfold f_Md_shape
          rw [rm.s0]
          simp only [bnd]
          rw [hms]
          have n2 : (sI md 0 0).1 1 = jI a.ns := rm.s1
          have n3 : jI (a.ns : Int) = 10 := by rw [c3]; rfl
          simp only [bnd, show ¬ (1 : Int32) = 0 by decide, if_false, ez, nz2, n2, n3, if_true]
          rw [show (-1 : Int32) = jI (-1) from rfl, jI_sub]
      · have hz11 : a.sz ≤ 11 := by omega
        have hns9 : a.ns < 10 := by omega
        obtain ⟨v, t2, g1, g2⟩ := c_toL hz11 ok.tx rc.s0 rc.st fu 0 S0 (by omega) (by unfold fu; omega) (fun k hk => by omega)
        have hto : f_Sg_toShape sg = some (a.sz, t2, jI (qsum a.tx (a.sz / 2))) := by
          unfold f_Sg_toShape
          have g1' : l_Sg_toShape_11 fu 0 0 a.sz sg S0 = some (jI (qsum a.tx (a.sz / 2)), v, t2) := g1
          have hc : (0 : Int32) ≤ jI a.sz ∧ jI (a.sz : Int) ≤ 40 := ⟨by simp (disch := omega) only [jI_lit, jL_lit, jI_n, jI_add, jI_sub, jI_mul, jI_neg, jL_add, jL_sub, jL_mul, jL_neg, jI_lt, jI_le, jI_eq, jL_lt, jL_le, jL_eq, jI_c, jI_64, jL_32, jI_div, jL_div, jx, bnd, if_true, if_false, if_pos, if_neg, Int.toNat_natCast, Int.reduceToNat, Int.add_zero, Int.zero_add, Int.reduceAdd, Int.reduceSub, Int.reduceMul, Int.reduceNeg, Int.reduceLT, Int.reduceLE, jI_rem, sI_1, sI_2, sA_1, sA_2, sA_3, sL_1, sL_2, sL_3, upd_a, updL_a, vaup_a, Nat.reduceEqDiff, Ab_sz, Ab_tx, Ab_ns, Ab_sn, Ab_sx, Ab_ru, Ab_nl, Ab_lsh, Ab_ld, Ab_lm, Ab_lg, Ab_pd, Ab_px, Ab_py, Ab_pz, Ab_kn, Ab_kl, Ab_km]; omega, by simp (disch := omega) only [jI_lit, jL_lit, jI_n, jI_add, jI_sub, jI_mul, jI_neg, jL_add, jL_sub, jL_mul, jL_neg, jI_lt, jI_le, jI_eq, jL_lt, jL_le, jL_eq, jI_c, jI_64, jL_32, jI_div, jL_div, jx, bnd, if_true, if_false, if_pos, if_neg, Int.toNat_natCast, Int.reduceToNat, Int.add_zero, Int.zero_add, Int.reduceAdd, Int.reduceSub, Int.reduceMul, Int.reduceNeg, Int.reduceLT, Int.reduceLE, jI_rem, sI_1, sI_2, sA_1, sA_2, sA_3, sL_1, sL_2, sL_3, upd_a, updL_a, vaup_a, Nat.reduceEqDiff, Ab_sz, Ab_tx, Ab_ns, Ab_sn, Ab_sx, Ab_ru, Ab_nl, Ab_lsh, Ab_ld, Ab_lm, Ab_lg, Ab_pd, Ab_px, Ab_py, Ab_pz, Ab_kn, Ab_kl, Ab_km]; omega⟩
          rw [rc.s0, if_pos hc, show (jI (a.sz : Int)).toNatClampNeg = a.sz from by rw [jI_c (by omega) (by omega)]; omega]
          simp only [bnd]
          rw [g1']; rfl
        obtain ⟨v3, m3, k1, k2, k3, k4, k5, k6⟩ := m_bendL (a := a) hz11 hns9 ok.tx (jI a.sz) 1 fu 0 (sA (sI md 0 0) 1 (upd (md.2.1 1) a.ns (jI ((a.sz + 1) / 2 : Nat)))) (by unfold fu; omega) (by omega) rm.s1 (fun k hk => rm.tx k hk) (fun k hk => by omega)
        have hmd : f_Md_shape md = some (jI a.ns, sI m3 1 (jI (a.ns + 1))) := by
          unfold f_Md_shape
          rw [rm.s0]
          simp only [bnd]
          rw [hms]
          have n2 : (sI md 0 0).1 1 = jI a.ns := rm.s1
          have n3 : ¬ jI (a.ns : Int) = 10 := by rw [show (10 : Int32) = jI 10 from rfl, jI_eq (by omega) (by omega) (by omega) (by omega)]; omega
          have i1 : ix (jI (a.ns : Int)) 10 = true := jx (by omega) (by omega) (by omega)
          have cc : (jI (a.ns : Int)).toNatClampNeg = a.ns := by rw [jI_c (by omega) (by omega)]; omega
          have el : (jI (a.sz : Int) + 1) / 2 = jI (((a.sz + 1) / 2 : Nat) : Int) := by simp (disch := omega) only [jI_lit, jL_lit, jI_n, jI_add, jI_sub, jI_mul, jI_neg, jL_add, jL_sub, jL_mul, jL_neg, jI_lt, jI_le, jI_eq, jL_lt, jL_le, jL_eq, jI_c, jI_64, jL_32, jI_div, jL_div, jx, bnd, if_true, if_false, if_pos, if_neg, Int.toNat_natCast, Int.reduceToNat, Int.add_zero, Int.zero_add, Int.reduceAdd, Int.reduceSub, Int.reduceMul, Int.reduceNeg, Int.reduceLT, Int.reduceLE, jI_rem, sI_1, sI_2, sA_1, sA_2, sA_3, sL_1, sL_2, sL_3, upd_a, updL_a, vaup_a, Nat.reduceEqDiff, Ab_sz, Ab_tx, Ab_ns, Ab_sn, Ab_sx, Ab_ru, Ab_nl, Ab_lsh, Ab_ld, Ab_lm, Ab_lg, Ab_pd, Ab_px, Ab_py, Ab_pz, Ab_kn, Ab_kl, Ab_km]; rfl
          simp only [bnd, show ¬ (1 : Int32) = 0 by decide, if_false, ez, nz2, n2, n3, i1, cc, if_true, el]
          have k1' : l_Md_shape_133 fu (jI a.sz) (jI a.sz) 1 1 (sA (sI md 0 0) 1 (upd ((sI md 0 0).2.1 1) a.ns (jI (((a.sz + 1) / 2 : Nat) : Int)))) = some (v3, m3) := k1
          rw [k1']
          have n4 : m3.1 1 = jI a.ns := by rw [k2]; exact rm.s1
          simp only [bnd, n4, sI_1, if_true]
          rw [show jI (a.ns : Int) + 1 = jI (a.ns + 1) from jI_add _ 1, show jI ((a.ns : Int) + 1) - 1 = jI a.ns from by rw [show (1 : Int32) = jI 1 from rfl, jI_sub]; congr 1; omega]
        refine ⟨jI a.ns, sI bc 0 (jI (a.ns + 1)), sI sg 0 0, sI m3 1 (jI (a.ns + 1)), shA a, some (a.sz, mkSh a.sz t2 (jI (qsum a.tx (a.sz / 2)))), ?_, hmd, ?_, ?_, ?_, ?_, Or.inr ⟨_, _, rfl, rfl, hns9, by rw [rc.c0, jI_c (by omega) (by omega)]; omega, ?_⟩⟩
        · unfold f_Bc_shape
          rw [hfw, rc.c0, rc.s0]
          have n1 : ¬ (0 : Int32) ≤ jI (-1) := by decide
          have n2 : ¬ (10 : Int32) ≤ jI a.ns := by simp (disch := omega) only [jI_lit, jL_lit, jI_n, jI_add, jI_sub, jI_mul, jI_neg, jL_add, jL_sub, jL_mul, jL_neg, jI_lt, jI_le, jI_eq, jL_lt, jL_le, jL_eq, jI_c, jI_64, jL_32, jI_div, jL_div, jx, bnd, if_true, if_false, if_pos, if_neg, Int.toNat_natCast, Int.reduceToNat, Int.add_zero, Int.zero_add, Int.reduceAdd, Int.reduceSub, Int.reduceMul, Int.reduceNeg, Int.reduceLT, Int.reduceLE, jI_rem, sI_1, sI_2, sA_1, sA_2, sA_3, sL_1, sL_2, sL_3, upd_a, updL_a, vaup_a, Nat.reduceEqDiff, Ab_sz, Ab_tx, Ab_ns, Ab_sn, Ab_sx, Ab_ru, Ab_nl, Ab_lsh, Ab_ld, Ab_lm, Ab_lg, Ab_pd, Ab_px, Ab_py, Ab_pz, Ab_kn, Ab_kl, Ab_km]; omega
          have i1 : ix (jI (a.ns : Int)) 10 = true := jx (by omega) (by omega) (by omega)
          simp only [bnd, n1, n2, if_false]
          rw [hto]
          simp only [bnd, i1, if_true, sI_1]
          rw [show jI (a.ns : Int) + 1 = jI (a.ns + 1) from jI_add _ 1, show jI ((a.ns : Int) + 1) - 1 = jI a.ns from by rw [show (1 : Int32) = jI 1 from rfl, jI_sub]; congr 1; omega]
        · have hsx : ∀ j, j < a.ns + 1 → ¬ j = a.ns → j < a.ns := fun j h1 h2 => by omega
          have hl : ∀ i, i < a.nl → va_up a.sn a.ns a.sz (a.lsh i) = a.sn (a.lsh i) := fun i hi => by
            have := ok.lsh i hi
            rw [vaup_a, if_neg (by omega)]
          refine (Ok.mk (Nat.zero_le _) (fun k hk => absurd hk (Nat.not_lt_zero k)) ((by show a.ns + 1 ≤ 10; omega)) (?_) (?_) (?_) ok.ru ok.nl (fun i hi => by have := ok.lsh i hi; show a.lsh i < a.ns + 1; omega) ok.ld ok.lm ok.lg (?_) ok.px ok.py ok.pz ok.kn ok.kl ok.km)
          · intro j hj
            show va_up a.sn a.ns a.sz j % 2 = 1 ∧ va_up a.sn a.ns a.sz j ≤ 11
            rw [vaup_a]
            by_cases e : j = a.ns
            · rw [if_pos e]; omega
            · rw [if_neg e]; exact ok.sn j (hsx j hj e)
          · intro j hj k hk
            have hk : 2 * k < va_up a.sn a.ns a.sz j := hk
            show va_up a.sx a.ns a.tx j (2 * k) = 65 + k
            rw [vaup_a] at hk ⊢
            by_cases e : j = a.ns
            · rw [if_pos e] at hk ⊢
              have := w2 (2 * k) hk
              unfold rgt at this
              rw [if_pos (by omega)] at this
              omega
            · rw [if_neg e] at hk ⊢; exact ok.sxe j (hsx j hj e) k hk
          · intro j hj k hk
            have hk : 2 * k + 1 < va_up a.sn a.ns a.sz j := hk
            show isBend (va_up a.sx a.ns a.tx j (2 * k + 1))
            rw [vaup_a] at hk ⊢
            by_cases e : j = a.ns
            · rw [if_pos e] at hk ⊢
              have := w2 (2 * k + 1) hk
              unfold rgt at this
              rw [if_neg (by omega)] at this
              exact this
            · rw [if_neg e] at hk ⊢; exact ok.sxo j (hsx j hj e) k hk
          · intro i hi k hk h
            have h : (va_up a.sn a.ns a.sz (a.lsh i) + 1) / 2 ≤ k := h
            rw [hl i hi] at h
            exact ok.lz i hi k hk h
        · have hl : ∀ i, i < a.nl → va_up a.sn a.ns a.sz (a.lsh i) = a.sn (a.lsh i) ∧ va_up a.sx a.ns a.tx (a.lsh i) = a.sx (a.lsh i) := fun i hi => by
            have := ok.lsh i hi
            rw [vaup_a, if_neg (by omega), vaup_a, if_neg (by omega)]
            exact ⟨rfl, rfl⟩
          refine (RC.mk rc.nl (rfl) (rc.c1) rc.ru (rfl) (fun k hk => absurd hk (Nat.not_lt_zero k)) (?_) (?_) (fun i hi => (RLn.mk (rc.ls i hi).sh (rc.ls i hi).di (rc.ls i hi).ma (rc.ls i hi).pd (rc.ls i hi).px (rc.ls i hi).py (rc.ls i hi).pz (rc.ls i hi).lg)) (fun d h1 h2 => (RF.mk (rc.fs d h1 h2).kn (rc.fs d h1 h2).kl (rc.fs d h1 h2).km)) rc.fn)
          · intro i hi
            show nT i = va_up a.sn a.ns a.sz (a.lsh i)
            rw [(hl i hi).1]; exact rc.nT i hi
          · intro i hi
            show RS (va_up a.sn a.ns a.sz (a.lsh i)) (va_up a.sx a.ns a.tx (a.lsh i)) (TS i)
            rw [(hl i hi).1, (hl i hi).2]; exact rc.ts i hi
        · have q1 : ∀ k, k ≠ 1 → (sI m3 1 (jI (a.ns + 1))).1 k = (sI md 0 0).1 k := fun k hk => by rw [sI_1, if_neg hk, k2]; rfl
          have q2 : ∀ k, k ≠ 1 → k ≠ 2 → (sI m3 1 (jI (a.ns + 1))).2.1 k = md.2.1 k := fun k h1 h2 => by
            show m3.2.1 k = _; rw [k4 k h2]; simp (disch := omega) only [jI_lit, jL_lit, jI_n, jI_add, jI_sub, jI_mul, jI_neg, jL_add, jL_sub, jL_mul, jL_neg, jI_lt, jI_le, jI_eq, jL_lt, jL_le, jL_eq, jI_c, jI_64, jL_32, jI_div, jL_div, jx, bnd, if_true, if_false, if_pos, if_neg, Int.toNat_natCast, Int.reduceToNat, Int.add_zero, Int.zero_add, Int.reduceAdd, Int.reduceSub, Int.reduceMul, Int.reduceNeg, Int.reduceLT, Int.reduceLE, jI_rem, sI_1, sI_2, sA_1, sA_2, sA_3, sL_1, sL_2, sL_3, upd_a, updL_a, vaup_a, Nat.reduceEqDiff, Ab_sz, Ab_tx, Ab_ns, Ab_sn, Ab_sx, Ab_ru, Ab_nl, Ab_lsh, Ab_ld, Ab_lm, Ab_lg, Ab_pd, Ab_px, Ab_py, Ab_pz, Ab_kn, Ab_kl, Ab_km]
          have q3 : (sI m3 1 (jI (a.ns + 1))).2.2 = md.2.2 := by show m3.2.2 = _; rw [k3]; rfl
          refine ⟨by rw [q1 0 (by omega)]; rfl, rfl, by rw [q1 2 (by omega)]; exact rm.s2, fun k hk => absurd hk (Nat.not_lt_zero k), ?_, ?_, by rw [q2 3 (by omega) (by omega)]; exact rm.sh, by rw [q2 4 (by omega) (by omega)]; exact rm.di, by rw [q2 5 (by omega) (by omega)]; exact rm.ma, by rw [q2 6 (by omega) (by omega)]; exact rm.pd, by rw [q2 7 (by omega) (by omega)]; exact rm.kn, by rw [q2 8 (by omega) (by omega)]; exact rm.km, by rw [q3]; exact rm.ru, by rw [q3]; exact rm.lg, by rw [q3]; exact rm.px, by rw [q3]; exact rm.py, by rw [q3]; exact rm.pz, by rw [q3]; exact rm.kl⟩
          · intro j hj
            have hj : j < a.ns + 1 := hj
            show m3.2.1 1 j = jI (((va_up a.sn a.ns a.sz j + 1) / 2 : Nat) : Int)
            rw [k4 1 (by omega), vaup_a]
            by_cases e : j = a.ns
            · simp (disch := omega) only [jI_lit, jL_lit, jI_n, jI_add, jI_sub, jI_mul, jI_neg, jL_add, jL_sub, jL_mul, jL_neg, jI_lt, jI_le, jI_eq, jL_lt, jL_le, jL_eq, jI_c, jI_64, jL_32, jI_div, jL_div, jx, bnd, if_true, if_false, if_pos, if_neg, Int.toNat_natCast, Int.reduceToNat, Int.add_zero, Int.zero_add, Int.reduceAdd, Int.reduceSub, Int.reduceMul, Int.reduceNeg, Int.reduceLT, Int.reduceLE, jI_rem, sI_1, sI_2, sA_1, sA_2, sA_3, sL_1, sL_2, sL_3, upd_a, updL_a, vaup_a, Nat.reduceEqDiff, Ab_sz, Ab_tx, Ab_ns, Ab_sn, Ab_sx, Ab_ru, Ab_nl, Ab_lsh, Ab_ld, Ab_lm, Ab_lg, Ab_pd, Ab_px, Ab_py, Ab_pz, Ab_kn, Ab_kl, Ab_km]
            · simp (disch := omega) only [jI_lit, jL_lit, jI_n, jI_add, jI_sub, jI_mul, jI_neg, jL_add, jL_sub, jL_mul, jL_neg, jI_lt, jI_le, jI_eq, jL_lt, jL_le, jL_eq, jI_c, jI_64, jL_32, jI_div, jL_div, jx, bnd, if_true, if_false, if_pos, if_neg, Int.toNat_natCast, Int.reduceToNat, Int.add_zero, Int.zero_add, Int.reduceAdd, Int.reduceSub, Int.reduceMul, Int.reduceNeg, Int.reduceLT, Int.reduceLE, jI_rem, sI_1, sI_2, sA_1, sA_2, sA_3, sL_1, sL_2, sL_3, upd_a, updL_a, vaup_a, Nat.reduceEqDiff, Ab_sz, Ab_tx, Ab_ns, Ab_sn, Ab_sx, Ab_ru, Ab_nl, Ab_lsh, Ab_ld, Ab_lm, Ab_lg, Ab_pd, Ab_px, Ab_py, Ab_pz, Ab_kn, Ab_kl, Ab_km]; exact rm.lc j (by omega)
          · intro j hj k hk
            have hj : j < a.ns + 1 := hj
            have hk : 2 * k + 1 < va_up a.sn a.ns a.sz j := hk
            show m3.2.1 2 (6 * j + k) = jI (bendC (va_up a.sx a.ns a.tx j (2 * k + 1)))
            rw [vaup_a] at hk ⊢
            by_cases e : j = a.ns
            · rw [if_pos e] at hk ⊢
              rw [e]; exact k5 k hk
            · rw [if_neg e] at hk ⊢
              have := ok.sn j (by omega)
              rw [k6 _ (by omega)]
              exact rm.bn j (by omega) k hk
        · refine plm (shA a) rfl (fun i hi => ⟨rfl, rfl, ?_⟩) _ (fun k hk => ?_) (fun k hk => ?_) ?_
          · have := ok.lsh i hi
            unfold cutLen
            show sum6 (a.lg i) - a.ru (a.ld i) * qsum (va_up a.sx a.ns a.tx (a.lsh i)) ((va_up a.sn a.ns a.sz (a.lsh i) - 1) / 2) = _
            rw [vaup_a, if_neg (by omega), vaup_a, if_neg (by omega)]
          · rw [sI_1, if_neg (by omega), k2]; show (sI md 0 0).1 k = _; simp (disch := omega) only [jI_lit, jL_lit, jI_n, jI_add, jI_sub, jI_mul, jI_neg, jL_add, jL_sub, jL_mul, jL_neg, jI_lt, jI_le, jI_eq, jL_lt, jL_le, jL_eq, jI_c, jI_64, jL_32, jI_div, jL_div, jx, bnd, if_true, if_false, if_pos, if_neg, Int.toNat_natCast, Int.reduceToNat, Int.add_zero, Int.zero_add, Int.reduceAdd, Int.reduceSub, Int.reduceMul, Int.reduceNeg, Int.reduceLT, Int.reduceLE, jI_rem, sI_1, sI_2, sA_1, sA_2, sA_3, sL_1, sL_2, sL_3, upd_a, updL_a, vaup_a, Nat.reduceEqDiff, Ab_sz, Ab_tx, Ab_ns, Ab_sn, Ab_sx, Ab_ru, Ab_nl, Ab_lsh, Ab_ld, Ab_lm, Ab_lg, Ab_pd, Ab_px, Ab_py, Ab_pz, Ab_kn, Ab_kl, Ab_km]
          · show m3.2.1 k = _; rw [k4 k (by omega)]; simp (disch := omega) only [jI_lit, jL_lit, jI_n, jI_add, jI_sub, jI_mul, jI_neg, jL_add, jL_sub, jL_mul, jL_neg, jI_lt, jI_le, jI_eq, jL_lt, jL_le, jL_eq, jI_c, jI_64, jL_32, jI_div, jL_div, jx, bnd, if_true, if_false, if_pos, if_neg, Int.toNat_natCast, Int.reduceToNat, Int.add_zero, Int.zero_add, Int.reduceAdd, Int.reduceSub, Int.reduceMul, Int.reduceNeg, Int.reduceLT, Int.reduceLE, jI_rem, sI_1, sI_2, sA_1, sA_2, sA_3, sL_1, sL_2, sL_3, upd_a, updL_a, vaup_a, Nat.reduceEqDiff, Ab_sz, Ab_tx, Ab_ns, Ab_sn, Ab_sx, Ab_ru, Ab_nl, Ab_lsh, Ab_ld, Ab_lm, Ab_lg, Ab_pd, Ab_px, Ab_py, Ab_pz, Ab_kn, Ab_kl, Ab_km]
          · show m3.2.2 = _; rw [k3]; rfl
        · intro j hj
          have hj : j < a.ns + 1 := hj
          show va_up nS a.ns a.sz j = va_up a.sn a.ns a.sz j ∧ RS (va_up a.sn a.ns a.sz j) (va_up a.sx a.ns a.tx j) (va_up SS a.ns _ j)
          simp only [vaup_a, Ab_sz, Ab_tx, Ab_ns, Ab_sn, Ab_sx, Ab_ru, Ab_nl, Ab_lsh, Ab_ld, Ab_lm, Ab_lg, Ab_pd, Ab_px, Ab_py, Ab_pz, Ab_kn, Ab_kl, Ab_km]
          by_cases e : j = a.ns
          · simp only [if_pos e]
            exact ⟨trivial, rs_mk hz11 (by rw [show (a.sz - 1) / 2 = a.sz / 2 from by omega]) g2⟩
          · simp only [if_neg e]
            exact rs j (by omega)
end SH
