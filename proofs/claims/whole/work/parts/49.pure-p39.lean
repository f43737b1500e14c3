def PL (a : Ab) (pl md : MS) : Prop := (pl.1 4 = 0 ∧ md.1 4 = 0) ∨ (pl.1 4 = 1 ∧ md.1 4 = 1 ∧ ∃ (B : List Bar) (Q : List Qc) (nd ne : Nat), PS a 41 B Q nd ne pl md)
section RN
variable {a : Ab} {nl : Nat} {nT : Nat → Nat} {LS TS : Nat → MS} {FP : Nat → Bool} {FS : Nat → MS} {bc sg tr tu ff pl lw md : MS} {d nd ne : Nat} {B : List Bar} {Q : List Qc}
theorem r_loop (ok : Ok a) (rc : RC a nl nT LS TS FP FS bc sg) (z : Int) (hz0 : 0 ≤ z) (hz8 : z ≤ 8) : ∀ (m n d : Nat) (B : List Bar) (Q : List Qc) (nd ne : Nat) (ff pl lw md : MS), d + m = 41 → 4 ≤ d → m < n → RM a md → PS a d B Q nd ne pl md →
    ∃ (r : Int32) (f2 p2 l2 : MS), l_Bc_run_25 n (jL z) (jI d) nl nT LS TS FP FS bc sg tr tu ff pl lw = some (r, bc, sg, tr, tu, f2, p2, l2) ∧ ((∃ i, i < a.nl ∧ d ≤ a.ld i ∧ cutLen a i = 0) → r = -1 ∧ p2.1 4 = 0) ∧ ((∀ i, i < a.nl → d ≤ a.ld i → 0 < cutLen a i) → ∃ m2, l_Md_run_63 n (jL z) (jI d) md = some (r, m2) ∧ Keep3 md m2 ∧ ((p2.1 4 = 0 ∧ m2.1 4 = md.1 4) ∨ (p2.1 4 = 1 ∧ m2.1 4 = 1 ∧ ∃ (B : List Bar) (Q : List Qc) (nd ne : Nat), PS a 41 B Q nd ne p2 m2))) := by
  intro m
  induction m with
  | zero =>
    intro n d B Q nd ne ff pl lw md hd hd4 hn rm ps
    obtain ⟨n, rfl⟩ : ∃ x, n = x + 1 := ⟨n - 1, by omega⟩
    have : d = 41 := by omega
    subst this
    rw [l_Bc_run_25, l_Md_run_63]
    simp only [show (40 : Int32) < jI ((41 : Nat) : Int) by decide, if_true, bnd]
    refine ⟨_, ff, sI pl 4 1, lw, rfl, ?_, ?_⟩
    · rintro ⟨i, hi, h1, -⟩
      have := ok.ld i hi
      omega
    · intro _
      refine ⟨sI md 4 1, ?_, ⟨fun k hk => by simp (disch := omega) only [jI_lit, jL_lit, jI_n, jI_add, jI_sub, jI_mul, jI_neg, jL_add, jL_sub, jL_mul, jL_neg, jI_lt, jI_le, jI_eq, jL_lt, jL_le, jL_eq, jI_c, jI_64, jL_32, jI_div, jL_div, jx, bnd, if_true, if_false, if_pos, if_neg, Int.toNat_natCast, Int.reduceToNat, Int.add_zero, Int.zero_add, Int.reduceAdd, Int.reduceSub, Int.reduceMul, Int.reduceNeg, Int.reduceLT, Int.reduceLE, jI_rem, sI_1, sI_2, sA_1, sA_2, sA_3, sL_1, sL_2, sL_3, upd_a, updL_a, vaup_a, Nat.reduceEqDiff, Ab_sz, Ab_tx, Ab_ns, Ab_sn, Ab_sx, Ab_ru, Ab_nl, Ab_lsh, Ab_ld, Ab_lm, Ab_lg, Ab_pd, Ab_px, Ab_py, Ab_pz, Ab_kn, Ab_kl, Ab_km], fun _ _ => rfl, fun _ _ => rfl⟩, Or.inr ⟨rfl, rfl, B, Q, nd, ne, ?_⟩⟩
      · show some ((sI md 4 1).1 5, _) = some ((sI pl 4 1).1 1, _)
        rw [show (sI md 4 1).1 5 = md.1 5 from rfl, show (sI pl 4 1).1 1 = pl.1 1 from rfl, ps.br.m, ps.br.n]
      · refine ⟨ps.q0, ps.qt, ⟨ps.br.n, ps.br.m, ps.br.t, ps.br.l, ps.br.lb⟩, ps.bl, ps.ls, ps.zb, ps.ct, ps.sm, ps.c2, ps.c3, ps.m6, ps.m7⟩
  | succ m ih =>
    intro n d B Q nd ne ff pl lw md hd hd4 hn rm ps
    obtain ⟨n, rfl⟩ : ∃ x, n = x + 1 := ⟨n - 1, by omega⟩
    have nn0 : ¬ (40 : Int32) < jI d := by simp (disch := omega) only [jI_lit, jL_lit, jI_n, jI_add, jI_sub, jI_mul, jI_neg, jL_add, jL_sub, jL_mul, jL_neg, jI_lt, jI_le, jI_eq, jL_lt, jL_le, jL_eq, jI_c, jI_64, jL_32, jI_div, jL_div, jx, bnd, if_true, if_false, if_pos, if_neg, Int.toNat_natCast, Int.reduceToNat, Int.add_zero, Int.zero_add, Int.reduceAdd, Int.reduceSub, Int.reduceMul, Int.reduceNeg, Int.reduceLT, Int.reduceLE, jI_rem, sI_1, sI_2, sA_1, sA_2, sA_3, sL_1, sL_2, sL_3, upd_a, updL_a, vaup_a, Nat.reduceEqDiff, Ab_sz, Ab_tx, Ab_ns, Ab_sn, Ab_sx, Ab_ru, Ab_nl, Ab_lsh, Ab_ld, Ab_lm, Ab_lg, Ab_pd, Ab_px, Ab_py, Ab_pz, Ab_kn, Ab_kl, Ab_km]; omega
    have D := x_dia (tr := tr) (tu := tu) (ff := ff) (lw := lw) ok rc rm ps hd4 (by omega) z hz0 hz8
    rw [l_Bc_run_25, if_neg nn0, jL_32]
    rcases D with ⟨i, f2, p2, l2, hi, hdi, hzi, e⟩ | ⟨f2, p2, l2, m2, e, em, k, k4⟩ | ⟨f2, p2, l2, m2, B2, Q2, nd2, ne2, e, em, k, k4, hnz, ps2⟩
    · skip
      rw [e]
      simp only [bnd, if_true, c_clear]
      refine ⟨-1, f2, clr p2, l2, rfl, fun _ => ⟨rfl, rfl⟩, fun h => ?_⟩
      have := h i hi (by omega)
      omega
    · skip
      rw [e]
      simp only [bnd, if_true, c_clear]
      refine ⟨-1, f2, clr p2, l2, rfl, fun _ => ⟨rfl, rfl⟩, fun h => ⟨m2, em n, k, Or.inl ⟨rfl, k4⟩⟩⟩
    · skip
      rw [e]
      simp only [bnd, show ¬ (1 : Int32) = 0 by decide, if_false]
      obtain ⟨r, f3, p3, l3, g1, g2, g3⟩ := ih n (d + 1) B2 Q2 nd2 ne2 f2 p2 l2 m2 (by omega) (by omega) (by omega) (rm.kept3 k) ps2
      refine ⟨r, f3, p3, l3, by rw [show jI (d : Int) + 1 = jI ((d + 1 : Nat) : Int) from jI_add _ 1]; exact g1, ?_, ?_⟩
      · rintro ⟨i, hi, h1, h2⟩
        refine g2 ⟨i, hi, ?_, h2⟩
        by_cases c : a.ld i = d
        · have := hnz i hi c; omega
        · omega
      · intro h
        obtain ⟨m3, q1, q2, q3⟩ := g3 (fun i hi h1 => h i hi (by omega))
        refine ⟨m3, by rw [em n]; exact q1, k.tr q2, ?_⟩
        rcases q3 with ⟨h1, h2⟩ | h1
        · exact Or.inl ⟨h1, by rw [h2]; exact k4⟩
        · exact Or.inr h1
theorem sumL_z {f : Nat → Nat} {p : Nat → Bool} : ∀ n, (∀ i, i < n → p i = false) → sumL f p n = 0 := by
  intro n
  induction n with
  | zero => intro _; rfl
  | succ n ih => intro h; simp only [sumL]; rw [ih (fun i hi => h i (by omega)), h n (by omega)]; rfl
theorem m_check (ok : Ok a) (rm : RM a md) (y : Int64) : ∀ (n l : Nat), l ≤ a.nl → a.nl - l < n → (∀ i, i < l → 0 < cutLen a i) →
    ((∃ i, i < a.nl ∧ cutLen a i = 0) ∧ l_Md_run_35 n y (jI l) md = some (-1, md)) ∨ ((∀ i, i < a.nl → 0 < cutLen a i) ∧ l_Md_run_35 n y (jI l) md = l_Md_run_63 fu y 4 md) := by
  intro n
  have hn12 := ok.nl
  induction n with
  | zero => intro l _ h; omega
  | succ n ih =>
    intro l hl hn hp
    rw [l_Md_run_35, rm.s2]
    by_cases e : l = a.nl
    · subst e
      rw [if_pos (Int32.le_refl _)]
      exact Or.inr ⟨hp, rfl⟩
    · have hl' : l < a.nl := by omega
      have hcb := x_cutb ok hl'
      rw [if_neg (by simp (disch := omega) only [jI_lit, jL_lit, jI_n, jI_add, jI_sub, jI_mul, jI_neg, jL_add, jL_sub, jL_mul, jL_neg, jI_lt, jI_le, jI_eq, jL_lt, jL_le, jL_eq, jI_c, jI_64, jL_32, jI_div, jL_div, jx, bnd, if_true, if_false, if_pos, if_neg, Int.toNat_natCast, Int.reduceToNat, Int.add_zero, Int.zero_add, Int.reduceAdd, Int.reduceSub, Int.reduceMul, Int.reduceNeg, Int.reduceLT, Int.reduceLE, jI_rem, sI_1, sI_2, sA_1, sA_2, sA_3, sL_1, sL_2, sL_3, upd_a, updL_a, vaup_a, Nat.reduceEqDiff, Ab_sz, Ab_tx, Ab_ns, Ab_sn, Ab_sx, Ab_ru, Ab_nl, Ab_lsh, Ab_ld, Ab_lm, Ab_lg, Ab_pd, Ab_px, Ab_py, Ab_pz, Ab_kn, Ab_kl, Ab_km]; omega), m_lengthOf ok rm hl']
      simp only [bnd]
      by_cases cz : cutLen a l = 0
      · rw [if_pos (by rw [cz]; rfl)]
        exact Or.inl ⟨⟨l, hl', cz⟩, rfl⟩
      · rw [if_neg (by rw [show (0 : Int64) = jL 0 from rfl, jL_eq (by omega) (by omega) (by omega) (by omega)]; omega), show jI (l : Int) + 1 = jI ((l + 1 : Nat) : Int) from jI_add _ 1]
        exact ih (l + 1) (by omega) (by omega) (fun i hi => by
          by_cases ei : i = l
          · subst ei; omega
          · exact hp i (by omega))
theorem x_run (ok : Ok a) (rc : RC a nl nT LS TS FP FS bc sg) (rm : RM a md) (p1 : Int64) : ∃ r f2 p2 l2 m2, f_Bc_run nl nT LS TS FP FS bc sg tr tu ff pl lw p1 = some (r, bc, sg, tr, tu, f2, p2, l2) ∧ f_Md_run md p1 = some (r, m2) ∧ RM a m2 ∧ ((p2 = pl ∧ m2 = md) ∨ PL a p2 m2) := by
  obtain ⟨z, rfl, z1, z2⟩ := x_ofL p1
  unfold f_Bc_run f_Md_run f_Md_isIn
  by_cases c1 : z < 0
  · refine ⟨-1, ff, pl, lw, md, ?_, ?_, rm, Or.inl ⟨rfl, rfl⟩⟩
    · rw [if_pos (by simp (disch := omega) only [jI_lit, jL_lit, jI_n, jI_add, jI_sub, jI_mul, jI_neg, jL_add, jL_sub, jL_mul, jL_neg, jI_lt, jI_le, jI_eq, jL_lt, jL_le, jL_eq, jI_c, jI_64, jL_32, jI_div, jL_div, jx, bnd, if_true, if_false, if_pos, if_neg, Int.toNat_natCast, Int.reduceToNat, Int.add_zero, Int.zero_add, Int.reduceAdd, Int.reduceSub, Int.reduceMul, Int.reduceNeg, Int.reduceLT, Int.reduceLE, jI_rem, sI_1, sI_2, sA_1, sA_2, sA_3, sL_1, sL_2, sL_3, upd_a, updL_a, vaup_a, Nat.reduceEqDiff, Ab_sz, Ab_tx, Ab_ns, Ab_sn, Ab_sx, Ab_ru, Ab_nl, Ab_lsh, Ab_ld, Ab_lm, Ab_lg, Ab_pd, Ab_px, Ab_py, Ab_pz, Ab_kn, Ab_kl, Ab_km]; omega)]
    · rw [if_pos (by simp (disch := omega) only [jI_lit, jL_lit, jI_n, jI_add, jI_sub, jI_mul, jI_neg, jL_add, jL_sub, jL_mul, jL_neg, jI_lt, jI_le, jI_eq, jL_lt, jL_le, jL_eq, jI_c, jI_64, jL_32, jI_div, jL_div, jx, bnd, if_true, if_false, if_pos, if_neg, Int.toNat_natCast, Int.reduceToNat, Int.add_zero, Int.zero_add, Int.reduceAdd, Int.reduceSub, Int.reduceMul, Int.reduceNeg, Int.reduceLT, Int.reduceLE, jI_rem, sI_1, sI_2, sA_1, sA_2, sA_3, sL_1, sL_2, sL_3, upd_a, updL_a, vaup_a, Nat.reduceEqDiff, Ab_sz, Ab_tx, Ab_ns, Ab_sn, Ab_sx, Ab_ru, Ab_nl, Ab_lsh, Ab_ld, Ab_lm, Ab_lg, Ab_pd, Ab_px, Ab_py, Ab_pz, Ab_kn, Ab_kl, Ab_km]; omega)]; rfl
  · by_cases c2 : 8 < z
    · refine ⟨-1, ff, pl, lw, md, ?_, ?_, rm, Or.inl ⟨rfl, rfl⟩⟩
      · rw [if_neg (by simp (disch := omega) only [jI_lit, jL_lit, jI_n, jI_add, jI_sub, jI_mul, jI_neg, jL_add, jL_sub, jL_mul, jL_neg, jI_lt, jI_le, jI_eq, jL_lt, jL_le, jL_eq, jI_c, jI_64, jL_32, jI_div, jL_div, jx, bnd, if_true, if_false, if_pos, if_neg, Int.toNat_natCast, Int.reduceToNat, Int.add_zero, Int.zero_add, Int.reduceAdd, Int.reduceSub, Int.reduceMul, Int.reduceNeg, Int.reduceLT, Int.reduceLE, jI_rem, sI_1, sI_2, sA_1, sA_2, sA_3, sL_1, sL_2, sL_3, upd_a, updL_a, vaup_a, Nat.reduceEqDiff, Ab_sz, Ab_tx, Ab_ns, Ab_sn, Ab_sx, Ab_ru, Ab_nl, Ab_lsh, Ab_ld, Ab_lm, Ab_lg, Ab_pd, Ab_px, Ab_py, Ab_pz, Ab_kn, Ab_kl, Ab_km]; omega), if_neg (by simp (disch := omega) only [jI_lit, jL_lit, jI_n, jI_add, jI_sub, jI_mul, jI_neg, jL_add, jL_sub, jL_mul, jL_neg, jI_lt, jI_le, jI_eq, jL_lt, jL_le, jL_eq, jI_c, jI_64, jL_32, jI_div, jL_div, jx, bnd, if_true, if_false, if_pos, if_neg, Int.toNat_natCast, Int.reduceToNat, Int.add_zero, Int.zero_add, Int.reduceAdd, Int.reduceSub, Int.reduceMul, Int.reduceNeg, Int.reduceLT, Int.reduceLE, jI_rem, sI_1, sI_2, sA_1, sA_2, sA_3, sL_1, sL_2, sL_3, upd_a, updL_a, vaup_a, Nat.reduceEqDiff, Ab_sz, Ab_tx, Ab_ns, Ab_sn, Ab_sx, Ab_ru, Ab_nl, Ab_lsh, Ab_ld, Ab_lm, Ab_lg, Ab_pd, Ab_px, Ab_py, Ab_pz, Ab_kn, Ab_kl, Ab_km]; omega)]
      · rw [if_neg (by simp (disch := omega) only [jI_lit, jL_lit, jI_n, jI_add, jI_sub, jI_mul, jI_neg, jL_add, jL_sub, jL_mul, jL_neg, jI_lt, jI_le, jI_eq, jL_lt, jL_le, jL_eq, jI_c, jI_64, jL_32, jI_div, jL_div, jx, bnd, if_true, if_false, if_pos, if_neg, Int.toNat_natCast, Int.reduceToNat, Int.add_zero, Int.zero_add, Int.reduceAdd, Int.reduceSub, Int.reduceMul, Int.reduceNeg, Int.reduceLT, Int.reduceLE, jI_rem, sI_1, sI_2, sA_1, sA_2, sA_3, sL_1, sL_2, sL_3, upd_a, updL_a, vaup_a, Nat.reduceEqDiff, Ab_sz, Ab_tx, Ab_ns, Ab_sn, Ab_sx, Ab_ru, Ab_nl, Ab_lsh, Ab_ld, Ab_lm, Ab_lg, Ab_pd, Ab_px, Ab_py, Ab_pz, Ab_kn, Ab_kl, Ab_km]; omega), if_pos (by simp (disch := omega) only [jI_lit, jL_lit, jI_n, jI_add, jI_sub, jI_mul, jI_neg, jL_add, jL_sub, jL_mul, jL_neg, jI_lt, jI_le, jI_eq, jL_lt, jL_le, jL_eq, jI_c, jI_64, jL_32, jI_div, jL_div, jx, bnd, if_true, if_false, if_pos, if_neg, Int.toNat_natCast, Int.reduceToNat, Int.add_zero, Int.zero_add, Int.reduceAdd, Int.reduceSub, Int.reduceMul, Int.reduceNeg, Int.reduceLT, Int.reduceLE, jI_rem, sI_1, sI_2, sA_1, sA_2, sA_3, sL_1, sL_2, sL_3, upd_a, updL_a, vaup_a, Nat.reduceEqDiff, Ab_sz, Ab_tx, Ab_ns, Ab_sn, Ab_sx, Ab_ru, Ab_nl, Ab_lsh, Ab_ld, Ab_lm, Ab_lg, Ab_pd, Ab_px, Ab_py, Ab_pz, Ab_kn, Ab_kl, Ab_km]; omega)]; rfl
    · have k3 : Keep3 md (sI (sI (sI (sI md 4 0) 5 0) 6 0) 7 0) := ⟨fun k hk => by simp (disch := omega) only [jI_lit, jL_lit, jI_n, jI_add, jI_sub, jI_mul, jI_neg, jL_add, jL_sub, jL_mul, jL_neg, jI_lt, jI_le, jI_eq, jL_lt, jL_le, jL_eq, jI_c, jI_64, jL_32, jI_div, jL_div, jx, bnd, if_true, if_false, if_pos, if_neg, Int.toNat_natCast, Int.reduceToNat, Int.add_zero, Int.zero_add, Int.reduceAdd, Int.reduceSub, Int.reduceMul, Int.reduceNeg, Int.reduceLT, Int.reduceLE, jI_rem, sI_1, sI_2, sA_1, sA_2, sA_3, sL_1, sL_2, sL_3, upd_a, updL_a, vaup_a, Nat.reduceEqDiff, Ab_sz, Ab_tx, Ab_ns, Ab_sn, Ab_sx, Ab_ru, Ab_nl, Ab_lsh, Ab_ld, Ab_lm, Ab_lg, Ab_pd, Ab_px, Ab_py, Ab_pz, Ab_kn, Ab_kl, Ab_km], fun _ _ => rfl, fun _ _ => rfl⟩
      have rm2 := rm.kept3 k3
      have ps0 : PS a 4 [] [] 0 0 (clr pl) (sI (sI (sI (sI md 4 0) 5 0) 6 0) 7 0) := by
        have hz : ∀ f, sumL f (ltD a 4) a.nl = 0 := fun f => sumL_z a.nl (fun i hi => by
          have := (ok.ld i hi).1
          simp [ltD]; omega)
        exact ⟨rfl, fun q x h => by simp at h, ⟨rfl, rfl, fun b x h => by simp at h, fun b x h => by simp at h, fun b x h => by simp at h⟩, Nat.le_refl _, fun b x h => by simp at h, fun b x h => by simp at h, by rw [hz]; rfl, by rw [hz]; rfl, rfl, rfl, rfl, rfl⟩
      obtain ⟨r, f2, p2, l2, g1, g2, g3⟩ := r_loop (tr := tr) (tu := tu) ok rc z (by omega) (by omega) 37 fu 4 [] [] 0 0 ff (clr pl) lw _ (by omega) (by omega) (by unfold fu; omega) rm2 ps0
      have h1 : ¬ jL z < 0 := by simp (disch := omega) only [jI_lit, jL_lit, jI_n, jI_add, jI_sub, jI_mul, jI_neg, jL_add, jL_sub, jL_mul, jL_neg, jI_lt, jI_le, jI_eq, jL_lt, jL_le, jL_eq, jI_c, jI_64, jL_32, jI_div, jL_div, jx, bnd, if_true, if_false, if_pos, if_neg, Int.toNat_natCast, Int.reduceToNat, Int.add_zero, Int.zero_add, Int.reduceAdd, Int.reduceSub, Int.reduceMul, Int.reduceNeg, Int.reduceLT, Int.reduceLE, jI_rem, sI_1, sI_2, sA_1, sA_2, sA_3, sL_1, sL_2, sL_3, upd_a, updL_a, vaup_a, Nat.reduceEqDiff, Ab_sz, Ab_tx, Ab_ns, Ab_sn, Ab_sx, Ab_ru, Ab_nl, Ab_lsh, Ab_ld, Ab_lm, Ab_lg, Ab_pd, Ab_px, Ab_py, Ab_pz, Ab_kn, Ab_kl, Ab_km]; omega
      have h2 : jL z ≤ 8 := by simp (disch := omega) only [jI_lit, jL_lit, jI_n, jI_add, jI_sub, jI_mul, jI_neg, jL_add, jL_sub, jL_mul, jL_neg, jI_lt, jI_le, jI_eq, jL_lt, jL_le, jL_eq, jI_c, jI_64, jL_32, jI_div, jL_div, jx, bnd, if_true, if_false, if_pos, if_neg, Int.toNat_natCast, Int.reduceToNat, Int.add_zero, Int.zero_add, Int.reduceAdd, Int.reduceSub, Int.reduceMul, Int.reduceNeg, Int.reduceLT, Int.reduceLE, jI_rem, sI_1, sI_2, sA_1, sA_2, sA_3, sL_1, sL_2, sL_3, upd_a, updL_a, vaup_a, Nat.reduceEqDiff, Ab_sz, Ab_tx, Ab_ns, Ab_sn, Ab_sx, Ab_ru, Ab_nl, Ab_lsh, Ab_ld, Ab_lm, Ab_lg, Ab_pd, Ab_px, Ab_py, Ab_pz, Ab_kn, Ab_kl, Ab_km]; omega
      have h3 : ¬ (8 : Int64) < jL z := by simp (disch := omega) only [jI_lit, jL_lit, jI_n, jI_add, jI_sub, jI_mul, jI_neg, jL_add, jL_sub, jL_mul, jL_neg, jI_lt, jI_le, jI_eq, jL_lt, jL_le, jL_eq, jI_c, jI_64, jL_32, jI_div, jL_div, jx, bnd, if_true, if_false, if_pos, if_neg, Int.toNat_natCast, Int.reduceToNat, Int.add_zero, Int.zero_add, Int.reduceAdd, Int.reduceSub, Int.reduceMul, Int.reduceNeg, Int.reduceLT, Int.reduceLE, jI_rem, sI_1, sI_2, sA_1, sA_2, sA_3, sL_1, sL_2, sL_3, upd_a, updL_a, vaup_a, Nat.reduceEqDiff, Ab_sz, Ab_tx, Ab_ns, Ab_sn, Ab_sx, Ab_ru, Ab_nl, Ab_lsh, Ab_ld, Ab_lm, Ab_lg, Ab_pd, Ab_px, Ab_py, Ab_pz, Ab_kn, Ab_kl, Ab_km]; omega
      have g1' : l_Bc_run_25 fu (jL z) 4 nl nT LS TS FP FS bc sg tr tu ff (clr pl) lw = some (r, bc, sg, tr, tu, f2, p2, l2) := g1
      simp only [h1, h2, h3, if_false, if_true, c_clear, bnd, g1', show ¬ (1 : Int32) = 0 by decide]
      have hck := m_check ok rm2 (jL z) fu 0 (by omega) (by have := ok.nl; unfold fu; omega) (fun i hi => by omega)
      have e0 : (0 : Int32) = jI ((0 : Nat) : Int) := rfl
      rcases hck with ⟨⟨i, hi, hzi⟩, hm⟩ | ⟨hpos, hm⟩
      · obtain ⟨rfl, h4⟩ := g2 ⟨i, hi, (ok.ld i hi).1, hzi⟩
        have hm' : l_Md_run_35 fu (jL z) 0 (sI (sI (sI (sI md 4 0) 5 0) 6 0) 7 0) = some (-1, sI (sI (sI (sI md 4 0) 5 0) 6 0) 7 0) := hm
        exact ⟨-1, f2, p2, l2, _, rfl, hm', rm2, Or.inr (Or.inl ⟨h4, rfl⟩)⟩
      · obtain ⟨m2, q1, q2, q3⟩ := g3 (fun i hi _ => hpos i hi)
        have hm' : l_Md_run_35 fu (jL z) 0 (sI (sI (sI (sI md 4 0) 5 0) 6 0) 7 0) = l_Md_run_63 fu (jL z) 4 (sI (sI (sI (sI md 4 0) 5 0) 6 0) 7 0) := hm
        have q1' : l_Md_run_63 fu (jL z) 4 (sI (sI (sI (sI md 4 0) 5 0) 6 0) 7 0) = some (r, m2) := q1
        refine ⟨r, f2, p2, l2, m2, rfl, by rw [hm']; exact q1', rm2.kept3 q2, Or.inr ?_⟩
        rcases q3 with ⟨h4, h5⟩ | ⟨h4, h5, h6⟩
        · exact Or.inl ⟨h4, by rw [h5]; rfl⟩
        · exact Or.inr ⟨h4, h5, h6⟩
end RN
section PN
variable {a : Ab} {nl : Nat} {nT : Nat → Nat} {LS TS : Nat → MS} {FP : Nat → Bool} {FS : Nat → MS} {bc sg tr tu ff pl lw md : MS} {d nd ne : Nat} {B : List Bar} {Q : List Qc}
def qsumS (Q : List Qc) : Nat := (Q.map (·.2.1)).sum
def bsumS (B : List Bar) : Nat := (B.map (·.2.1)).sum
theorem ps_len (ok : Ok a) (ps : PS a d B Q nd ne pl md) : Q.length ≤ 60 := by
  have h1 := sumL_b (f := a.lm) (p := ltD a d) (m := 5) a.nl (fun i hi => (ok.lm i hi).2)
  have := ps.ct
  have := ok.nl
  omega
theorem c_sumQ (ok : Ok a) (ps : PS a d B Q nd ne pl md) : f_Pl_sumOfPieces pl = some (jI (qsumS Q)) := by
  have hl := ps_len ok ps
  have key : ∀ (n q : Nat) (s : Nat), q ≤ Q.length → Q.length - q < n → s + qsumS (Q.drop q) = qsumS Q → ∃ v, l_Pl_sumOfPieces_4 n (jI s) (jI q) pl = some (jI (qsumS Q), v) := by
    intro n
    induction n with
    | zero => intro q s _ h; omega
    | succ n ih =>
      intro q s hq hn hs
      rw [l_Pl_sumOfPieces_4, ps.q0]
      by_cases e : q = Q.length
      · subst e
        rw [List.drop_length] at hs
        simp [qsumS] at hs
        rw [if_pos (Int32.le_refl _)]
        exact ⟨_, by rw [hs]; rfl⟩
      · have hq' : q < Q.length := by omega
        rw [List.drop_eq_getElem_cons hq'] at hs
        have t := ps.qt q _ (List.getElem?_eq_getElem hq')
        rw [if_neg (by simp (disch := omega) only [jI_lit, jL_lit, jI_n, jI_add, jI_sub, jI_mul, jI_neg, jL_add, jL_sub, jL_mul, jL_neg, jI_lt, jI_le, jI_eq, jL_lt, jL_le, jL_eq, jI_c, jI_64, jL_32, jI_div, jL_div, jx, bnd, if_true, if_false, if_pos, if_neg, Int.toNat_natCast, Int.reduceToNat, Int.add_zero, Int.zero_add, Int.reduceAdd, Int.reduceSub, Int.reduceMul, Int.reduceNeg, Int.reduceLT, Int.reduceLE, jI_rem, sI_1, sI_2, sA_1, sA_2, sA_3, sL_1, sL_2, sL_3, upd_a, updL_a, vaup_a, Nat.reduceEqDiff, Ab_sz, Ab_tx, Ab_ns, Ab_sn, Ab_sx, Ab_ru, Ab_nl, Ab_lsh, Ab_ld, Ab_lm, Ab_lg, Ab_pd, Ab_px, Ab_py, Ab_pz, Ab_kn, Ab_kl, Ab_km]; omega), jx (by omega) (by omega) (by omega), show (jI (q : Int)).toNatClampNeg = q from by rw [jI_c (by omega) (by omega)]; omega, t.2.1]
        simp only [if_true, bnd]
        rw [show jI (s : Int) + jI ((Q[q]).2.1) = jI ((s + (Q[q]).2.1 : Nat) : Int) from jI_add _ _, show jI (q : Int) + 1 = jI ((q + 1 : Nat) : Int) from jI_add _ 1]
        refine ih (q + 1) _ (by omega) (by omega) ?_
        simp only [qsumS, List.map_cons, List.sum_cons] at hs ⊢
        omega
  obtain ⟨v, e⟩ := key fu 0 0 (by omega) (by unfold fu; omega) (by simp)
  unfold f_Pl_sumOfPieces
  have e' : l_Pl_sumOfPieces_4 fu 0 0 pl = some (jI (qsumS Q), v) := e
  rw [e']; rfl
theorem c_sumB (ok : Ok a) (ps : PS a d B Q nd ne pl md) : f_Pl_sumOfBars pl = some (jI (bsumS B)) := by
  have hl := ps_len ok ps
  have hb := ps.bl
  have key : ∀ (n q : Nat) (s : Nat), q ≤ B.length → B.length - q < n → s + bsumS (B.drop q) = bsumS B → ∃ v, l_Pl_sumOfBars_4 n (jI s) (jI q) pl = some (jI (bsumS B), v) := by
    intro n
    induction n with
    | zero => intro q s _ h; omega
    | succ n ih =>
      intro q s hq hn hs
      rw [l_Pl_sumOfBars_4, ps.br.n]
      by_cases e : q = B.length
      · subst e
        rw [List.drop_length] at hs
        simp [bsumS] at hs
        rw [if_pos (Int32.le_refl _)]
        exact ⟨_, by rw [hs]; rfl⟩
      · have hq' : q < B.length := by omega
        rw [List.drop_eq_getElem_cons hq'] at hs
        have t := ps.br.t q _ (List.getElem?_eq_getElem hq')
        rw [if_neg (by simp (disch := omega) only [jI_lit, jL_lit, jI_n, jI_add, jI_sub, jI_mul, jI_neg, jL_add, jL_sub, jL_mul, jL_neg, jI_lt, jI_le, jI_eq, jL_lt, jL_le, jL_eq, jI_c, jI_64, jL_32, jI_div, jL_div, jx, bnd, if_true, if_false, if_pos, if_neg, Int.toNat_natCast, Int.reduceToNat, Int.add_zero, Int.zero_add, Int.reduceAdd, Int.reduceSub, Int.reduceMul, Int.reduceNeg, Int.reduceLT, Int.reduceLE, jI_rem, sI_1, sI_2, sA_1, sA_2, sA_3, sL_1, sL_2, sL_3, upd_a, updL_a, vaup_a, Nat.reduceEqDiff, Ab_sz, Ab_tx, Ab_ns, Ab_sn, Ab_sx, Ab_ru, Ab_nl, Ab_lsh, Ab_ld, Ab_lm, Ab_lg, Ab_pd, Ab_px, Ab_py, Ab_pz, Ab_kn, Ab_kl, Ab_km]; omega), jx (by omega) (by omega) (by omega), show (jI (q : Int)).toNatClampNeg = q from by rw [jI_c (by omega) (by omega)]; omega, t.2.1]
        simp only [if_true, bnd]
        rw [show jI (s : Int) + jI ((B[q]).2.1) = jI ((s + (B[q]).2.1 : Nat) : Int) from jI_add _ _, show jI (q : Int) + 1 = jI ((q + 1 : Nat) : Int) from jI_add _ 1]
        refine ih (q + 1) _ (by omega) (by omega) ?_
        simp only [bsumS, List.map_cons, List.sum_cons] at hs ⊢
        omega
  obtain ⟨v, e⟩ := key fu 0 0 (by omega) (by unfold fu; omega) (by simp)
  unfold f_Pl_sumOfBars
  have e' : l_Pl_sumOfBars_4 fu 0 0 pl = some (jI (bsumS B), v) := e
  rw [e']; rfl
theorem m_sumB (ok : Ok a) (ps : PS a d B Q nd ne pl md) (y : Int32) : ∃ v, l_Md_loss_25 fu y 0 0 md = some (jL (bsumS B), v) := by
  have hl := ps_len ok ps
  have hb := ps.bl
  have key : ∀ (n q : Nat) (s : Nat), q ≤ B.length → B.length - q < n → s + bsumS (B.drop q) = bsumS B → ∃ v, l_Md_loss_25 n y (jL s) (jI q) md = some (jL (bsumS B), v) := by
    intro n
    induction n with
    | zero => intro q s _ h; omega
    | succ n ih =>
      intro q s hq hn hs
      rw [l_Md_loss_25, ps.br.m]
      by_cases e : q = B.length
      · subst e
        rw [List.drop_length] at hs
        simp [bsumS] at hs
        rw [if_pos (Int32.le_refl _)]
        exact ⟨_, by rw [hs]; rfl⟩
      · have hq' : q < B.length := by omega
        rw [List.drop_eq_getElem_cons hq'] at hs
        have t := ps.br.t q _ (List.getElem?_eq_getElem hq')
        rw [if_neg (by simp (disch := omega) only [jI_lit, jL_lit, jI_n, jI_add, jI_sub, jI_mul, jI_neg, jL_add, jL_sub, jL_mul, jL_neg, jI_lt, jI_le, jI_eq, jL_lt, jL_le, jL_eq, jI_c, jI_64, jL_32, jI_div, jL_div, jx, bnd, if_true, if_false, if_pos, if_neg, Int.toNat_natCast, Int.reduceToNat, Int.add_zero, Int.zero_add, Int.reduceAdd, Int.reduceSub, Int.reduceMul, Int.reduceNeg, Int.reduceLT, Int.reduceLE, jI_rem, sI_1, sI_2, sA_1, sA_2, sA_3, sL_1, sL_2, sL_3, upd_a, updL_a, vaup_a, Nat.reduceEqDiff, Ab_sz, Ab_tx, Ab_ns, Ab_sn, Ab_sx, Ab_ru, Ab_nl, Ab_lsh, Ab_ld, Ab_lm, Ab_lg, Ab_pd, Ab_px, Ab_py, Ab_pz, Ab_kn, Ab_kl, Ab_km]; omega), jx (by omega) (by omega) (by omega), show (jI (q : Int)).toNatClampNeg = q from by rw [jI_c (by omega) (by omega)]; omega, t.2.2.2.2.2.1]
        simp only [if_true, bnd]
        rw [show jL (s : Int) + jL ((B[q]).2.1) = jL ((s + (B[q]).2.1 : Nat) : Int) from jL_add _ _, show jI (q : Int) + 1 = jI ((q + 1 : Nat) : Int) from jI_add _ 1]
        refine ih (q + 1) _ (by omega) (by omega) ?_
        simp only [bsumS, List.map_cons, List.sum_cons] at hs ⊢
        omega
  exact key fu 0 0 (by omega) (by unfold fu; omega) (by simp)
theorem m_together (ok : Ok a) (rm : RM a md) : f_Md_piecesTogether md = some (jL (sumL (lmc a) (ltD a 41) a.nl)) := by
  have hn12 := ok.nl
  have key : ∀ (n l : Nat), l ≤ a.nl → a.nl - l < n → ∃ v, l_Md_piecesTogether_4 n (jL (sumL (lmc a) (ltD a 41) l)) (jI l) md = some (jL (sumL (lmc a) (ltD a 41) a.nl), v) := by
    intro n
    induction n with
    | zero => intro l _ h; omega
    | succ n ih =>
      intro l hl hn
      rw [l_Md_piecesTogether_4, rm.s2]
      by_cases e : l = a.nl
      · subst e
        rw [if_pos (Int32.le_refl _)]; exact ⟨_, rfl⟩
      · have hl' : l < a.nl := by omega
        have hdl := ok.ld l hl'
        have hlm := ok.lm l hl'
        obtain ⟨v, h⟩ := ih (l + 1) (by omega) (by omega)
        simp only [sumL, ltD, show a.ld l < 41 by omega, decide_true, if_true] at h
        rw [if_neg (by simp (disch := omega) only [jI_lit, jL_lit, jI_n, jI_add, jI_sub, jI_mul, jI_neg, jL_add, jL_sub, jL_mul, jL_neg, jI_lt, jI_le, jI_eq, jL_lt, jL_le, jL_eq, jI_c, jI_64, jL_32, jI_div, jL_div, jx, bnd, if_true, if_false, if_pos, if_neg, Int.toNat_natCast, Int.reduceToNat, Int.add_zero, Int.zero_add, Int.reduceAdd, Int.reduceSub, Int.reduceMul, Int.reduceNeg, Int.reduceLT, Int.reduceLE, jI_rem, sI_1, sI_2, sA_1, sA_2, sA_3, sL_1, sL_2, sL_3, upd_a, updL_a, vaup_a, Nat.reduceEqDiff, Ab_sz, Ab_tx, Ab_ns, Ab_sn, Ab_sx, Ab_ru, Ab_nl, Ab_lsh, Ab_ld, Ab_lm, Ab_lg, Ab_pd, Ab_px, Ab_py, Ab_pz, Ab_kn, Ab_kl, Ab_km]; omega), jx (by omega) (by omega) (by omega), m_lengthOf ok rm hl', show (jI (l : Int)).toNatClampNeg = l from by rw [jI_c (by omega) (by omega)]; omega, rm.ma l hl', jI_64 (by omega) (by omega)]
        simp only [if_true, bnd]
        rw [jL_mul, jL_add, show jI (l : Int) + 1 = jI ((l + 1 : Nat) : Int) from jI_add _ 1]
        exact ⟨v, h⟩
  obtain ⟨v, e⟩ := key fu 0 (by omega) (by unfold fu; omega)
  unfold f_Md_piecesTogether
  have e' : l_Md_piecesTogether_4 fu 0 0 md = some (jL (sumL (lmc a) (ltD a 41) a.nl), v) := e
  rw [e']; rfl
theorem ps_sb (ok : Ok a) (ps : PS a d B Q nd ne pl md) : bsumS B ≤ 2000000 ∧ qsumS Q ≤ 8000000 := by
  have hl := ps_len ok ps
  have hb := ps.bl
  constructor
  · have h : ∀ L : List Bar, (∀ x ∈ L, x.2.1 ≤ 30000) → bsumS L ≤ 30000 * L.length := by
      intro L
      induction L with
      | nil => intro _; simp [bsumS]
      | cons x L ih => intro h; have := ih (fun y hy => h y (by simp [hy])); have := h x (by simp); simp only [bsumS, List.map_cons, List.sum_cons, List.length_cons] at *; omega
    have := h B (fun x hx => by
      obtain ⟨b, hb⟩ := List.getElem?_of_mem hx
      exact (ps.zb b x hb).1)
    omega
  · show (Q.map (·.2.1)).sum ≤ _
    rw [ps.sm]
    have h1 := sumL_b (f := lmc a) (p := ltD a d) (m := 600000) a.nl (fun i hi => by
      have := ok.lm i hi
      have := x_cutb ok hi
      calc a.lm i * cutLen a i ≤ 5 * 120000 := Nat.mul_le_mul (by omega) (by omega)
        _ = 600000 := rfl)
    have := ok.nl
    omega
theorem x_loss (ok : Ok a) (rm : RM a md) (h : PL a pl md) (p1 : Int32) : ∃ r, f_Bc_loss nl nT LS TS FP FS bc sg tr tu ff pl lw p1 = some r ∧ f_Md_loss md p1 = some r := by
  unfold f_Bc_loss f_Md_loss
  rcases h with ⟨h1, h2⟩ | ⟨h1, h2, B, Q, nd, ne, ps⟩
  · rw [h1, h2]; exact ⟨-1, rfl, rfl⟩
  · have hb := ps_sb ok ps
    obtain ⟨v, hv⟩ := m_sumB ok ps p1
    have hq : sumL (lmc a) (ltD a 41) a.nl = qsumS Q := ps.sm.symm
    rw [h1, h2, c_sumQ ok ps, c_sumB ok ps, m_together ok rm, hv, hq]
    simp only [show ¬ (1 : Int32) = 0 by decide, if_false, bnd]
    obtain ⟨z, rfl, z1, z2⟩ := x_ofI p1
    by_cases c0 : z = 0
    · subst c0; exact ⟨jL ((bsumS B : Int) - qsumS Q), by simp (disch := omega) only [jI_lit, jL_lit, jI_n, jI_add, jI_sub, jI_mul, jI_neg, jL_add, jL_sub, jL_mul, jL_neg, jI_lt, jI_le, jI_eq, jL_lt, jL_le, jL_eq, jI_c, jI_64, jL_32, jI_div, jL_div, jx, bnd, if_true, if_false, if_pos, if_neg, Int.toNat_natCast, Int.reduceToNat, Int.add_zero, Int.zero_add, Int.reduceAdd, Int.reduceSub, Int.reduceMul, Int.reduceNeg, Int.reduceLT, Int.reduceLE, jI_rem, sI_1, sI_2, sA_1, sA_2, sA_3, sL_1, sL_2, sL_3, upd_a, updL_a, vaup_a, Nat.reduceEqDiff, Ab_sz, Ab_tx, Ab_ns, Ab_sn, Ab_sx, Ab_ru, Ab_nl, Ab_lsh, Ab_ld, Ab_lm, Ab_lg, Ab_pd, Ab_px, Ab_py, Ab_pz, Ab_kn, Ab_kl, Ab_km], by simp (disch := omega) only [jI_lit, jL_lit, jI_n, jI_add, jI_sub, jI_mul, jI_neg, jL_add, jL_sub, jL_mul, jL_neg, jI_lt, jI_le, jI_eq, jL_lt, jL_le, jL_eq, jI_c, jI_64, jL_32, jI_div, jL_div, jx, bnd, if_true, if_false, if_pos, if_neg, Int.toNat_natCast, Int.reduceToNat, Int.add_zero, Int.zero_add, Int.reduceAdd, Int.reduceSub, Int.reduceMul, Int.reduceNeg, Int.reduceLT, Int.reduceLE, jI_rem, sI_1, sI_2, sA_1, sA_2, sA_3, sL_1, sL_2, sL_3, upd_a, updL_a, vaup_a, Nat.reduceEqDiff, Ab_sz, Ab_tx, Ab_ns, Ab_sn, Ab_sx, Ab_ru, Ab_nl, Ab_lsh, Ab_ld, Ab_lm, Ab_lg, Ab_pd, Ab_px, Ab_py, Ab_pz, Ab_kn, Ab_kl, Ab_km]⟩
    · by_cases c1 : z = 1
      · subst c1; exact ⟨jL (bsumS B), by simp (disch := omega) only [jI_lit, jL_lit, jI_n, jI_add, jI_sub, jI_mul, jI_neg, jL_add, jL_sub, jL_mul, jL_neg, jI_lt, jI_le, jI_eq, jL_lt, jL_le, jL_eq, jI_c, jI_64, jL_32, jI_div, jL_div, jx, bnd, if_true, if_false, if_pos, if_neg, Int.toNat_natCast, Int.reduceToNat, Int.add_zero, Int.zero_add, Int.reduceAdd, Int.reduceSub, Int.reduceMul, Int.reduceNeg, Int.reduceLT, Int.reduceLE, jI_rem, sI_1, sI_2, sA_1, sA_2, sA_3, sL_1, sL_2, sL_3, upd_a, updL_a, vaup_a, Nat.reduceEqDiff, Ab_sz, Ab_tx, Ab_ns, Ab_sn, Ab_sx, Ab_ru, Ab_nl, Ab_lsh, Ab_ld, Ab_lm, Ab_lg, Ab_pd, Ab_px, Ab_py, Ab_pz, Ab_kn, Ab_kl, Ab_km], by simp (disch := omega) only [jI_lit, jL_lit, jI_n, jI_add, jI_sub, jI_mul, jI_neg, jL_add, jL_sub, jL_mul, jL_neg, jI_lt, jI_le, jI_eq, jL_lt, jL_le, jL_eq, jI_c, jI_64, jL_32, jI_div, jL_div, jx, bnd, if_true, if_false, if_pos, if_neg, Int.toNat_natCast, Int.reduceToNat, Int.add_zero, Int.zero_add, Int.reduceAdd, Int.reduceSub, Int.reduceMul, Int.reduceNeg, Int.reduceLT, Int.reduceLE, jI_rem, sI_1, sI_2, sA_1, sA_2, sA_3, sL_1, sL_2, sL_3, upd_a, updL_a, vaup_a, Nat.reduceEqDiff, Ab_sz, Ab_tx, Ab_ns, Ab_sn, Ab_sx, Ab_ru, Ab_nl, Ab_lsh, Ab_ld, Ab_lm, Ab_lg, Ab_pd, Ab_px, Ab_py, Ab_pz, Ab_kn, Ab_kl, Ab_km]⟩
      · by_cases c2 : z = 2
        · subst c2; exact ⟨jL (qsumS Q), by simp (disch := omega) only [jI_lit, jL_lit, jI_n, jI_add, jI_sub, jI_mul, jI_neg, jL_add, jL_sub, jL_mul, jL_neg, jI_lt, jI_le, jI_eq, jL_lt, jL_le, jL_eq, jI_c, jI_64, jL_32, jI_div, jL_div, jx, bnd, if_true, if_false, if_pos, if_neg, Int.toNat_natCast, Int.reduceToNat, Int.add_zero, Int.zero_add, Int.reduceAdd, Int.reduceSub, Int.reduceMul, Int.reduceNeg, Int.reduceLT, Int.reduceLE, jI_rem, sI_1, sI_2, sA_1, sA_2, sA_3, sL_1, sL_2, sL_3, upd_a, updL_a, vaup_a, Nat.reduceEqDiff, Ab_sz, Ab_tx, Ab_ns, Ab_sn, Ab_sx, Ab_ru, Ab_nl, Ab_lsh, Ab_ld, Ab_lm, Ab_lg, Ab_pd, Ab_px, Ab_py, Ab_pz, Ab_kn, Ab_kl, Ab_km], by simp (disch := omega) only [jI_lit, jL_lit, jI_n, jI_add, jI_sub, jI_mul, jI_neg, jL_add, jL_sub, jL_mul, jL_neg, jI_lt, jI_le, jI_eq, jL_lt, jL_le, jL_eq, jI_c, jI_64, jL_32, jI_div, jL_div, jx, bnd, if_true, if_false, if_pos, if_neg, Int.toNat_natCast, Int.reduceToNat, Int.add_zero, Int.zero_add, Int.reduceAdd, Int.reduceSub, Int.reduceMul, Int.reduceNeg, Int.reduceLT, Int.reduceLE, jI_rem, sI_1, sI_2, sA_1, sA_2, sA_3, sL_1, sL_2, sL_3, upd_a, updL_a, vaup_a, Nat.reduceEqDiff, Ab_sz, Ab_tx, Ab_ns, Ab_sn, Ab_sx, Ab_ru, Ab_nl, Ab_lsh, Ab_ld, Ab_lm, Ab_lg, Ab_pd, Ab_px, Ab_py, Ab_pz, Ab_kn, Ab_kl, Ab_km]⟩
        · by_cases c3 : z < 0
          · exact ⟨_, by first | (simp (disch := omega) only [jI_lit, jL_lit, jI_n, jI_add, jI_sub, jI_mul, jI_neg, jL_add, jL_sub, jL_mul, jL_neg, jI_lt, jI_le, jI_eq, jL_lt, jL_le, jL_eq, jI_c, jI_64, jL_32, jI_div, jL_div, jx, bnd, if_true, if_false, if_pos, if_neg, Int.toNat_natCast, Int.reduceToNat, Int.add_zero, Int.zero_add, Int.reduceAdd, Int.reduceSub, Int.reduceMul, Int.reduceNeg, Int.reduceLT, Int.reduceLE, jI_rem]; done) | (simp (disch := omega) only [jI_lit, jL_lit, jI_n, jI_add, jI_sub, jI_mul, jI_neg, jL_add, jL_sub, jL_mul, jL_neg, jI_lt, jI_le, jI_eq, jL_lt, jL_le, jL_eq, jI_c, jI_64, jL_32, jI_div, jL_div, jx, bnd, if_true, if_false, if_pos, if_neg, Int.toNat_natCast, Int.reduceToNat, Int.add_zero, Int.zero_add, Int.reduceAdd, Int.reduceSub, Int.reduceMul, Int.reduceNeg, Int.reduceLT, Int.reduceLE, jI_rem]; rfl) | rfl, by first | (simp (disch := omega) only [jI_lit, jL_lit, jI_n, jI_add, jI_sub, jI_mul, jI_neg, jL_add, jL_sub, jL_mul, jL_neg, jI_lt, jI_le, jI_eq, jL_lt, jL_le, jL_eq, jI_c, jI_64, jL_32, jI_div, jL_div, jx, bnd, if_true, if_false, if_pos, if_neg, Int.toNat_natCast, Int.reduceToNat, Int.add_zero, Int.zero_add, Int.reduceAdd, Int.reduceSub, Int.reduceMul, Int.reduceNeg, Int.reduceLT, Int.reduceLE, jI_rem]; done) | (simp (disch := omega) only [jI_lit, jL_lit, jI_n, jI_add, jI_sub, jI_mul, jI_neg, jL_add, jL_sub, jL_mul, jL_neg, jI_lt, jI_le, jI_eq, jL_lt, jL_le, jL_eq, jI_c, jI_64, jL_32, jI_div, jL_div, jx, bnd, if_true, if_false, if_pos, if_neg, Int.toNat_natCast, Int.reduceToNat, Int.add_zero, Int.zero_add, Int.reduceAdd, Int.reduceSub, Int.reduceMul, Int.reduceNeg, Int.reduceLT, Int.reduceLE, jI_rem]; rfl) | rfl⟩
          · exact ⟨_, by first | (simp (disch := omega) only [jI_lit, jL_lit, jI_n, jI_add, jI_sub, jI_mul, jI_neg, jL_add, jL_sub, jL_mul, jL_neg, jI_lt, jI_le, jI_eq, jL_lt, jL_le, jL_eq, jI_c, jI_64, jL_32, jI_div, jL_div, jx, bnd, if_true, if_false, if_pos, if_neg, Int.toNat_natCast, Int.reduceToNat, Int.add_zero, Int.zero_add, Int.reduceAdd, Int.reduceSub, Int.reduceMul, Int.reduceNeg, Int.reduceLT, Int.reduceLE, jI_rem]; done) | (simp (disch := omega) only [jI_lit, jL_lit, jI_n, jI_add, jI_sub, jI_mul, jI_neg, jL_add, jL_sub, jL_mul, jL_neg, jI_lt, jI_le, jI_eq, jL_lt, jL_le, jL_eq, jI_c, jI_64, jL_32, jI_div, jL_div, jx, bnd, if_true, if_false, if_pos, if_neg, Int.toNat_natCast, Int.reduceToNat, Int.add_zero, Int.zero_add, Int.reduceAdd, Int.reduceSub, Int.reduceMul, Int.reduceNeg, Int.reduceLT, Int.reduceLE, jI_rem]; rfl) | rfl, by first | (simp (disch := omega) only [jI_lit, jL_lit, jI_n, jI_add, jI_sub, jI_mul, jI_neg, jL_add, jL_sub, jL_mul, jL_neg, jI_lt, jI_le, jI_eq, jL_lt, jL_le, jL_eq, jI_c, jI_64, jL_32, jI_div, jL_div, jx, bnd, if_true, if_false, if_pos, if_neg, Int.toNat_natCast, Int.reduceToNat, Int.add_zero, Int.zero_add, Int.reduceAdd, Int.reduceSub, Int.reduceMul, Int.reduceNeg, Int.reduceLT, Int.reduceLE, jI_rem]; done) | (simp (disch := omega) only [jI_lit, jL_lit, jI_n, jI_add, jI_sub, jI_mul, jI_neg, jL_add, jL_sub, jL_mul, jL_neg, jI_lt, jI_le, jI_eq, jL_lt, jL_le, jL_eq, jI_c, jI_64, jL_32, jI_div, jL_div, jx, bnd, if_true, if_false, if_pos, if_neg, Int.toNat_natCast, Int.reduceToNat, Int.add_zero, Int.zero_add, Int.reduceAdd, Int.reduceSub, Int.reduceMul, Int.reduceNeg, Int.reduceLT, Int.reduceLE, jI_rem]; rfl) | rfl⟩
theorem x_bound (ok : Ok a) (rm : RM a md) (h : PL a pl md) (p1 : Int32) : ∃ r, f_Bc_bound nl nT LS TS FP FS bc sg tr tu ff pl lw p1 = some r ∧ f_Md_bound md p1 = some r := by
  unfold f_Bc_bound f_Md_bound
  rcases h with ⟨h1, h2⟩ | ⟨h1, h2, B, Q, nd, ne, ps⟩
  · rw [h1, h2]; exact ⟨-1, rfl, rfl⟩
  · have hb := ps_sb ok ps
    have hq : sumL (lmc a) (ltD a 41) a.nl = qsumS Q := ps.sm.symm
    rw [h1, h2, c_sumQ ok ps, m_together ok rm, hq, ps.c3, ps.m7]
    simp only [show ¬ (1 : Int32) = 0 by decide, if_false, bnd]
    obtain ⟨z, rfl, z1, z2⟩ := x_ofI p1
    by_cases c0 : z = 0
    · subst c0; exact ⟨jL (qsumS Q), by simp (disch := omega) only [jI_lit, jL_lit, jI_n, jI_add, jI_sub, jI_mul, jI_neg, jL_add, jL_sub, jL_mul, jL_neg, jI_lt, jI_le, jI_eq, jL_lt, jL_le, jL_eq, jI_c, jI_64, jL_32, jI_div, jL_div, jx, bnd, if_true, if_false, if_pos, if_neg, Int.toNat_natCast, Int.reduceToNat, Int.add_zero, Int.zero_add, Int.reduceAdd, Int.reduceSub, Int.reduceMul, Int.reduceNeg, Int.reduceLT, Int.reduceLE, jI_rem, sI_1, sI_2, sA_1, sA_2, sA_3, sL_1, sL_2, sL_3, upd_a, updL_a, vaup_a, Nat.reduceEqDiff, Ab_sz, Ab_tx, Ab_ns, Ab_sn, Ab_sx, Ab_ru, Ab_nl, Ab_lsh, Ab_ld, Ab_lm, Ab_lg, Ab_pd, Ab_px, Ab_py, Ab_pz, Ab_kn, Ab_kl, Ab_km], by simp (disch := omega) only [jI_lit, jL_lit, jI_n, jI_add, jI_sub, jI_mul, jI_neg, jL_add, jL_sub, jL_mul, jL_neg, jI_lt, jI_le, jI_eq, jL_lt, jL_le, jL_eq, jI_c, jI_64, jL_32, jI_div, jL_div, jx, bnd, if_true, if_false, if_pos, if_neg, Int.toNat_natCast, Int.reduceToNat, Int.add_zero, Int.zero_add, Int.reduceAdd, Int.reduceSub, Int.reduceMul, Int.reduceNeg, Int.reduceLT, Int.reduceLE, jI_rem, sI_1, sI_2, sA_1, sA_2, sA_3, sL_1, sL_2, sL_3, upd_a, updL_a, vaup_a, Nat.reduceEqDiff, Ab_sz, Ab_tx, Ab_ns, Ab_sn, Ab_sx, Ab_ru, Ab_nl, Ab_lsh, Ab_ld, Ab_lm, Ab_lg, Ab_pd, Ab_px, Ab_py, Ab_pz, Ab_kn, Ab_kl, Ab_km]⟩
    · by_cases c1 : z = 1
      · subst c1; exact ⟨_, rfl, rfl⟩
      · by_cases c3 : z < 0
        · exact ⟨_, by first | (simp (disch := omega) only [jI_lit, jL_lit, jI_n, jI_add, jI_sub, jI_mul, jI_neg, jL_add, jL_sub, jL_mul, jL_neg, jI_lt, jI_le, jI_eq, jL_lt, jL_le, jL_eq, jI_c, jI_64, jL_32, jI_div, jL_div, jx, bnd, if_true, if_false, if_pos, if_neg, Int.toNat_natCast, Int.reduceToNat, Int.add_zero, Int.zero_add, Int.reduceAdd, Int.reduceSub, Int.reduceMul, Int.reduceNeg, Int.reduceLT, Int.reduceLE, jI_rem]; done) | (simp (disch := omega) only [jI_lit, jL_lit, jI_n, jI_add, jI_sub, jI_mul, jI_neg, jL_add, jL_sub, jL_mul, jL_neg, jI_lt, jI_le, jI_eq, jL_lt, jL_le, jL_eq, jI_c, jI_64, jL_32, jI_div, jL_div, jx, bnd, if_true, if_false, if_pos, if_neg, Int.toNat_natCast, Int.reduceToNat, Int.add_zero, Int.zero_add, Int.reduceAdd, Int.reduceSub, Int.reduceMul, Int.reduceNeg, Int.reduceLT, Int.reduceLE, jI_rem]; rfl) | rfl, by first | (simp (disch := omega) only [jI_lit, jL_lit, jI_n, jI_add, jI_sub, jI_mul, jI_neg, jL_add, jL_sub, jL_mul, jL_neg, jI_lt, jI_le, jI_eq, jL_lt, jL_le, jL_eq, jI_c, jI_64, jL_32, jI_div, jL_div, jx, bnd, if_true, if_false, if_pos, if_neg, Int.toNat_natCast, Int.reduceToNat, Int.add_zero, Int.zero_add, Int.reduceAdd, Int.reduceSub, Int.reduceMul, Int.reduceNeg, Int.reduceLT, Int.reduceLE, jI_rem]; done) | (simp (disch := omega) only [jI_lit, jL_lit, jI_n, jI_add, jI_sub, jI_mul, jI_neg, jL_add, jL_sub, jL_mul, jL_neg, jI_lt, jI_le, jI_eq, jL_lt, jL_le, jL_eq, jI_c, jI_64, jL_32, jI_div, jL_div, jx, bnd, if_true, if_false, if_pos, if_neg, Int.toNat_natCast, Int.reduceToNat, Int.add_zero, Int.zero_add, Int.reduceAdd, Int.reduceSub, Int.reduceMul, Int.reduceNeg, Int.reduceLT, Int.reduceLE, jI_rem]; rfl) | rfl⟩
        · exact ⟨_, by first | (simp (disch := omega) only [jI_lit, jL_lit, jI_n, jI_add, jI_sub, jI_mul, jI_neg, jL_add, jL_sub, jL_mul, jL_neg, jI_lt, jI_le, jI_eq, jL_lt, jL_le, jL_eq, jI_c, jI_64, jL_32, jI_div, jL_div, jx, bnd, if_true, if_false, if_pos, if_neg, Int.toNat_natCast, Int.reduceToNat, Int.add_zero, Int.zero_add, Int.reduceAdd, Int.reduceSub, Int.reduceMul, Int.reduceNeg, Int.reduceLT, Int.reduceLE, jI_rem]; done) | (simp (disch := omega) only [jI_lit, jL_lit, jI_n, jI_add, jI_sub, jI_mul, jI_neg, jL_add, jL_sub, jL_mul, jL_neg, jI_lt, jI_le, jI_eq, jL_lt, jL_le, jL_eq, jI_c, jI_64, jL_32, jI_div, jL_div, jx, bnd, if_true, if_false, if_pos, if_neg, Int.toNat_natCast, Int.reduceToNat, Int.add_zero, Int.zero_add, Int.reduceAdd, Int.reduceSub, Int.reduceMul, Int.reduceNeg, Int.reduceLT, Int.reduceLE, jI_rem]; rfl) | rfl, by first | (simp (disch := omega) only [jI_lit, jL_lit, jI_n, jI_add, jI_sub, jI_mul, jI_neg, jL_add, jL_sub, jL_mul, jL_neg, jI_lt, jI_le, jI_eq, jL_lt, jL_le, jL_eq, jI_c, jI_64, jL_32, jI_div, jL_div, jx, bnd, if_true, if_false, if_pos, if_neg, Int.toNat_natCast, Int.reduceToNat, Int.add_zero, Int.zero_add, Int.reduceAdd, Int.reduceSub, Int.reduceMul, Int.reduceNeg, Int.reduceLT, Int.reduceLE, jI_rem]; done) | (simp (disch := omega) only [jI_lit, jL_lit, jI_n, jI_add, jI_sub, jI_mul, jI_neg, jL_add, jL_sub, jL_mul, jL_neg, jI_lt, jI_le, jI_eq, jL_lt, jL_le, jL_eq, jI_c, jI_64, jL_32, jI_div, jL_div, jx, bnd, if_true, if_false, if_pos, if_neg, Int.toNat_natCast, Int.reduceToNat, Int.add_zero, Int.zero_add, Int.reduceAdd, Int.reduceSub, Int.reduceMul, Int.reduceNeg, Int.reduceLT, Int.reduceLE, jI_rem]; rfl) | rfl⟩
theorem x_proved (h : PL a pl md) : ∃ r, f_Bc_proved nl nT LS TS FP FS bc sg tr tu ff pl lw = some r ∧ f_Md_proved md = some r := by
  unfold f_Bc_proved f_Md_proved
  rcases h with ⟨h1, h2⟩ | ⟨h1, h2, B, Q, nd, ne, ps⟩
  · rw [h1, h2]; exact ⟨0, rfl, rfl⟩
  · rw [h1, h2, ps.c3, ps.c2, ps.m6, ps.m7]
    by_cases c : jI (ne : Int) = jI nd
    · simp only [show ¬ (1 : Int32) = 0 by decide, if_false, c, if_true]; exact ⟨_, rfl, rfl⟩
    · simp only [show ¬ (1 : Int32) = 0 by decide, if_false, c]; exact ⟨_, rfl, rfl⟩
theorem c_lineOf (ok : Ok a) (ps : PS a d B Q nd ne pl md) {b : Nat} (hb : b < B.length) {k : Int} (hk0 : 0 ≤ k) (hk : k < 2147483648) : f_Pl_lineOfPiece pl (jI b) (jI k) = some (match ((Q.filter (fun y => decide (y.2.2 = b))).map (·.1))[k.toNat]? with | some l => jI l | none => jI (-1)) := by
  have hl := ps_len ok ps
  have hbl := ps.bl
  have key : ∀ (n q f : Nat), q ≤ Q.length → Q.length - q < n → f ≤ q → (f : Int) ≤ k → l_Pl_lineOfPiece_5 n (jI b) (jI k) (jI f) (jI q) pl = some (match (((Q.drop q).filter (fun y => decide (y.2.2 = b))).map (·.1))[k.toNat - f]? with | some l => jI l | none => jI (-1)) := by
    intro n
    induction n with
    | zero => intro q f _ h; omega
    | succ n ih =>
      intro q f hq hn hf hfk
      rw [l_Pl_lineOfPiece_5, ps.q0]
      by_cases e : q = Q.length
      · subst e
        rw [if_pos (Int32.le_refl _), List.drop_length]
        rfl
      · have hq' : q < Q.length := by omega
        rw [List.drop_eq_getElem_cons hq', List.filter_cons]
        have t := ps.qt q _ (List.getElem?_eq_getElem hq')
        rw [if_neg (by simp (disch := omega) only [jI_lit, jL_lit, jI_n, jI_add, jI_sub, jI_mul, jI_neg, jL_add, jL_sub, jL_mul, jL_neg, jI_lt, jI_le, jI_eq, jL_lt, jL_le, jL_eq, jI_c, jI_64, jL_32, jI_div, jL_div, jx, bnd, if_true, if_false, if_pos, if_neg, Int.toNat_natCast, Int.reduceToNat, Int.add_zero, Int.zero_add, Int.reduceAdd, Int.reduceSub, Int.reduceMul, Int.reduceNeg, Int.reduceLT, Int.reduceLE, jI_rem, sI_1, sI_2, sA_1, sA_2, sA_3, sL_1, sL_2, sL_3, upd_a, updL_a, vaup_a, Nat.reduceEqDiff, Ab_sz, Ab_tx, Ab_ns, Ab_sn, Ab_sx, Ab_ru, Ab_nl, Ab_lsh, Ab_ld, Ab_lm, Ab_lg, Ab_pd, Ab_px, Ab_py, Ab_pz, Ab_kn, Ab_kl, Ab_km]; omega), jx (by omega) (by omega) (by omega), show (jI (q : Int)).toNatClampNeg = q from by rw [jI_c (by omega) (by omega)]; omega, t.2.2.1, t.1, show jI (q : Int) + 1 = jI ((q + 1 : Nat) : Int) from jI_add _ 1, show jI (f : Int) + 1 = jI ((f + 1 : Nat) : Int) from jI_add _ 1]
        simp only [if_true]
        have hlt := t.2.2.2.1
        by_cases c1 : (Q[q]).2.2 = b
        · simp only [c1, decide_true, if_true]
          by_cases c2 : (f : Int) = k
          · rw [if_pos (by rw [c2]), show k.toNat - f = 0 from by omega]
            simp
          · rw [if_neg (by rw [jI_eq (by omega) (by omega) (by omega) (by omega)]; omega), ih (q + 1) (f + 1) (by omega) (by omega) (by omega) (by omega), show k.toNat - f = (k.toNat - (f + 1)) + 1 from by omega]
            simp
        · have n1 : ¬ jI ((Q[q]).2.2 : Int) = jI b := by rw [jI_eq (by omega) (by omega) (by omega) (by omega)]; omega
          simp only [n1, if_false, c1, decide_false, Bool.false_eq_true]
          exact ih (q + 1) f (by omega) (by omega) (by omega) hfk
  exact key fu 0 0 (by omega) (by unfold fu; omega) (by omega) (by omega)
theorem x_pattern (ok : Ok a) (h : PL a pl md) (p1 p2 : Int32) : ∃ r, f_Bc_pattern nl nT LS TS FP FS bc sg tr tu ff pl lw p1 p2 = some r ∧ f_Md_pattern md p1 p2 = some r := by
  unfold f_Bc_pattern f_Md_pattern
  rcases h with ⟨h1, h2⟩ | ⟨h1, h2, B, Q, nd, ne, ps⟩
  · rw [h1, h2]; exact ⟨-1, rfl, rfl⟩
  · have hl := ps_len ok ps
    have hbl := ps.bl
    rw [h1, h2, ps.br.n, ps.br.m]
    simp only [show ¬ (1 : Int32) = 0 by decide, if_false]
    obtain ⟨z, rfl, z1, z2⟩ := x_ofI p1
    obtain ⟨y, rfl, y1, y2⟩ := x_ofI p2
    by_cases c0 : z < 0
    · exact ⟨_, by first | (simp (disch := omega) only [jI_lit, jL_lit, jI_n, jI_add, jI_sub, jI_mul, jI_neg, jL_add, jL_sub, jL_mul, jL_neg, jI_lt, jI_le, jI_eq, jL_lt, jL_le, jL_eq, jI_c, jI_64, jL_32, jI_div, jL_div, jx, bnd, if_true, if_false, if_pos, if_neg, Int.toNat_natCast, Int.reduceToNat, Int.add_zero, Int.zero_add, Int.reduceAdd, Int.reduceSub, Int.reduceMul, Int.reduceNeg, Int.reduceLT, Int.reduceLE, jI_rem]; done) | (simp (disch := omega) only [jI_lit, jL_lit, jI_n, jI_add, jI_sub, jI_mul, jI_neg, jL_add, jL_sub, jL_mul, jL_neg, jI_lt, jI_le, jI_eq, jL_lt, jL_le, jL_eq, jI_c, jI_64, jL_32, jI_div, jL_div, jx, bnd, if_true, if_false, if_pos, if_neg, Int.toNat_natCast, Int.reduceToNat, Int.add_zero, Int.zero_add, Int.reduceAdd, Int.reduceSub, Int.reduceMul, Int.reduceNeg, Int.reduceLT, Int.reduceLE, jI_rem]; rfl) | rfl, by first | (simp (disch := omega) only [jI_lit, jL_lit, jI_n, jI_add, jI_sub, jI_mul, jI_neg, jL_add, jL_sub, jL_mul, jL_neg, jI_lt, jI_le, jI_eq, jL_lt, jL_le, jL_eq, jI_c, jI_64, jL_32, jI_div, jL_div, jx, bnd, if_true, if_false, if_pos, if_neg, Int.toNat_natCast, Int.reduceToNat, Int.add_zero, Int.zero_add, Int.reduceAdd, Int.reduceSub, Int.reduceMul, Int.reduceNeg, Int.reduceLT, Int.reduceLE, jI_rem]; done) | (simp (disch := omega) only [jI_lit, jL_lit, jI_n, jI_add, jI_sub, jI_mul, jI_neg, jL_add, jL_sub, jL_mul, jL_neg, jI_lt, jI_le, jI_eq, jL_lt, jL_le, jL_eq, jI_c, jI_64, jL_32, jI_div, jL_div, jx, bnd, if_true, if_false, if_pos, if_neg, Int.toNat_natCast, Int.reduceToNat, Int.add_zero, Int.zero_add, Int.reduceAdd, Int.reduceSub, Int.reduceMul, Int.reduceNeg, Int.reduceLT, Int.reduceLE, jI_rem]; rfl) | rfl⟩
    · by_cases c1 : (B.length : Int) ≤ z
      · exact ⟨_, by first | (simp (disch := omega) only [jI_lit, jL_lit, jI_n, jI_add, jI_sub, jI_mul, jI_neg, jL_add, jL_sub, jL_mul, jL_neg, jI_lt, jI_le, jI_eq, jL_lt, jL_le, jL_eq, jI_c, jI_64, jL_32, jI_div, jL_div, jx, bnd, if_true, if_false, if_pos, if_neg, Int.toNat_natCast, Int.reduceToNat, Int.add_zero, Int.zero_add, Int.reduceAdd, Int.reduceSub, Int.reduceMul, Int.reduceNeg, Int.reduceLT, Int.reduceLE, jI_rem]; done) | (simp (disch := omega) only [jI_lit, jL_lit, jI_n, jI_add, jI_sub, jI_mul, jI_neg, jL_add, jL_sub, jL_mul, jL_neg, jI_lt, jI_le, jI_eq, jL_lt, jL_le, jL_eq, jI_c, jI_64, jL_32, jI_div, jL_div, jx, bnd, if_true, if_false, if_pos, if_neg, Int.toNat_natCast, Int.reduceToNat, Int.add_zero, Int.zero_add, Int.reduceAdd, Int.reduceSub, Int.reduceMul, Int.reduceNeg, Int.reduceLT, Int.reduceLE, jI_rem]; rfl) | rfl, by first | (simp (disch := omega) only [jI_lit, jL_lit, jI_n, jI_add, jI_sub, jI_mul, jI_neg, jL_add, jL_sub, jL_mul, jL_neg, jI_lt, jI_le, jI_eq, jL_lt, jL_le, jL_eq, jI_c, jI_64, jL_32, jI_div, jL_div, jx, bnd, if_true, if_false, if_pos, if_neg, Int.toNat_natCast, Int.reduceToNat, Int.add_zero, Int.zero_add, Int.reduceAdd, Int.reduceSub, Int.reduceMul, Int.reduceNeg, Int.reduceLT, Int.reduceLE, jI_rem]; done) | (simp (disch := omega) only [jI_lit, jL_lit, jI_n, jI_add, jI_sub, jI_mul, jI_neg, jL_add, jL_sub, jL_mul, jL_neg, jI_lt, jI_le, jI_eq, jL_lt, jL_le, jL_eq, jI_c, jI_64, jL_32, jI_div, jL_div, jx, bnd, if_true, if_false, if_pos, if_neg, Int.toNat_natCast, Int.reduceToNat, Int.add_zero, Int.zero_add, Int.reduceAdd, Int.reduceSub, Int.reduceMul, Int.reduceNeg, Int.reduceLT, Int.reduceLE, jI_rem]; rfl) | rfl⟩
      · have hb : z.toNat < B.length := by omega
        have e0 := List.getElem?_eq_getElem hb
        have t := ps.br.t z.toNat _ e0
        have hls := ps.ls z.toNat _ e0
        have hlb := ps.br.lb z.toNat _ e0
        have hzb := ps.zb z.toNat _ e0
        have n1 : ¬ jI z < 0 := by simp (disch := omega) only [jI_lit, jL_lit, jI_n, jI_add, jI_sub, jI_mul, jI_neg, jL_add, jL_sub, jL_mul, jL_neg, jI_lt, jI_le, jI_eq, jL_lt, jL_le, jL_eq, jI_c, jI_64, jL_32, jI_div, jL_div, jx, bnd, if_true, if_false, if_pos, if_neg, Int.toNat_natCast, Int.reduceToNat, Int.add_zero, Int.zero_add, Int.reduceAdd, Int.reduceSub, Int.reduceMul, Int.reduceNeg, Int.reduceLT, Int.reduceLE, jI_rem, sI_1, sI_2, sA_1, sA_2, sA_3, sL_1, sL_2, sL_3, upd_a, updL_a, vaup_a, Nat.reduceEqDiff, Ab_sz, Ab_tx, Ab_ns, Ab_sn, Ab_sx, Ab_ru, Ab_nl, Ab_lsh, Ab_ld, Ab_lm, Ab_lg, Ab_pd, Ab_px, Ab_py, Ab_pz, Ab_kn, Ab_kl, Ab_km]; omega
        have n2 : jI z < jI B.length := by simp (disch := omega) only [jI_lit, jL_lit, jI_n, jI_add, jI_sub, jI_mul, jI_neg, jL_add, jL_sub, jL_mul, jL_neg, jI_lt, jI_le, jI_eq, jL_lt, jL_le, jL_eq, jI_c, jI_64, jL_32, jI_div, jL_div, jx, bnd, if_true, if_false, if_pos, if_neg, Int.toNat_natCast, Int.reduceToNat, Int.add_zero, Int.zero_add, Int.reduceAdd, Int.reduceSub, Int.reduceMul, Int.reduceNeg, Int.reduceLT, Int.reduceLE, jI_rem, sI_1, sI_2, sA_1, sA_2, sA_3, sL_1, sL_2, sL_3, upd_a, updL_a, vaup_a, Nat.reduceEqDiff, Ab_sz, Ab_tx, Ab_ns, Ab_sn, Ab_sx, Ab_ru, Ab_nl, Ab_lsh, Ab_ld, Ab_lm, Ab_lg, Ab_pd, Ab_px, Ab_py, Ab_pz, Ab_kn, Ab_kl, Ab_km]; omega
        have n3 : ¬ jI (B.length : Int) ≤ jI z := by simp (disch := omega) only [jI_lit, jL_lit, jI_n, jI_add, jI_sub, jI_mul, jI_neg, jL_add, jL_sub, jL_mul, jL_neg, jI_lt, jI_le, jI_eq, jL_lt, jL_le, jL_eq, jI_c, jI_64, jL_32, jI_div, jL_div, jx, bnd, if_true, if_false, if_pos, if_neg, Int.toNat_natCast, Int.reduceToNat, Int.add_zero, Int.zero_add, Int.reduceAdd, Int.reduceSub, Int.reduceMul, Int.reduceNeg, Int.reduceLT, Int.reduceLE, jI_rem, sI_1, sI_2, sA_1, sA_2, sA_3, sL_1, sL_2, sL_3, upd_a, updL_a, vaup_a, Nat.reduceEqDiff, Ab_sz, Ab_tx, Ab_ns, Ab_sn, Ab_sx, Ab_ru, Ab_nl, Ab_lsh, Ab_ld, Ab_lm, Ab_lg, Ab_pd, Ab_px, Ab_py, Ab_pz, Ab_kn, Ab_kl, Ab_km]; omega
        have i1 : ix (jI z) 60 = true := jx (by omega) (by omega) (by omega)
        have e1 : (jI z).toNatClampNeg = z.toNat := jI_c (by omega) (by omega)
        simp only [n1, n2, n3, if_true, if_false, i1, e1, t.1, t.2.1, t.2.2.2.1, t.2.2.2.2.1, t.2.2.2.2.2.1, t.2.2.2.2.2.2.2]
        have e3 : (3 : Int32) + jI ((B[z.toNat]).2.2.2.length : Int) = jI (3 + (B[z.toNat]).2.2.2.length) := jI_add 3 _
        rw [e3]
        by_cases d0 : y < 0
        · have n4 : jI y < 0 := by simp (disch := omega) only [jI_lit, jL_lit, jI_n, jI_add, jI_sub, jI_mul, jI_neg, jL_add, jL_sub, jL_mul, jL_neg, jI_lt, jI_le, jI_eq, jL_lt, jL_le, jL_eq, jI_c, jI_64, jL_32, jI_div, jL_div, jx, bnd, if_true, if_false, if_pos, if_neg, Int.toNat_natCast, Int.reduceToNat, Int.add_zero, Int.zero_add, Int.reduceAdd, Int.reduceSub, Int.reduceMul, Int.reduceNeg, Int.reduceLT, Int.reduceLE, jI_rem, sI_1, sI_2, sA_1, sA_2, sA_3, sL_1, sL_2, sL_3, upd_a, updL_a, vaup_a, Nat.reduceEqDiff, Ab_sz, Ab_tx, Ab_ns, Ab_sn, Ab_sx, Ab_ru, Ab_nl, Ab_lsh, Ab_ld, Ab_lm, Ab_lg, Ab_pd, Ab_px, Ab_py, Ab_pz, Ab_kn, Ab_kl, Ab_km]; omega
          have n5 : ¬ jI y = 0 := by rw [show (0 : Int32) = jI 0 from rfl, jI_eq (by omega) (by omega) (by omega) (by omega)]; omega
          have n6 : ¬ jI y = 1 := by rw [show (1 : Int32) = jI 1 from rfl, jI_eq (by omega) (by omega) (by omega) (by omega)]; omega
          have n7 : ¬ jI y = 2 := by rw [show (2 : Int32) = jI 2 from rfl, jI_eq (by omega) (by omega) (by omega) (by omega)]; omega
          have n8 : ¬ (3 : Int32) ≤ jI y := by simp (disch := omega) only [jI_lit, jL_lit, jI_n, jI_add, jI_sub, jI_mul, jI_neg, jL_add, jL_sub, jL_mul, jL_neg, jI_lt, jI_le, jI_eq, jL_lt, jL_le, jL_eq, jI_c, jI_64, jL_32, jI_div, jL_div, jx, bnd, if_true, if_false, if_pos, if_neg, Int.toNat_natCast, Int.reduceToNat, Int.add_zero, Int.zero_add, Int.reduceAdd, Int.reduceSub, Int.reduceMul, Int.reduceNeg, Int.reduceLT, Int.reduceLE, jI_rem, sI_1, sI_2, sA_1, sA_2, sA_3, sL_1, sL_2, sL_3, upd_a, updL_a, vaup_a, Nat.reduceEqDiff, Ab_sz, Ab_tx, Ab_ns, Ab_sn, Ab_sx, Ab_ru, Ab_nl, Ab_lsh, Ab_ld, Ab_lm, Ab_lg, Ab_pd, Ab_px, Ab_py, Ab_pz, Ab_kn, Ab_kl, Ab_km]; omega
          simp only [n4, n5, n6, n7, n8, if_true, if_false]
          exact ⟨_, rfl, rfl⟩
        · have n4 : ¬ jI y < 0 := by simp (disch := omega) only [jI_lit, jL_lit, jI_n, jI_add, jI_sub, jI_mul, jI_neg, jL_add, jL_sub, jL_mul, jL_neg, jI_lt, jI_le, jI_eq, jL_lt, jL_le, jL_eq, jI_c, jI_64, jL_32, jI_div, jL_div, jx, bnd, if_true, if_false, if_pos, if_neg, Int.toNat_natCast, Int.reduceToNat, Int.add_zero, Int.zero_add, Int.reduceAdd, Int.reduceSub, Int.reduceMul, Int.reduceNeg, Int.reduceLT, Int.reduceLE, jI_rem, sI_1, sI_2, sA_1, sA_2, sA_3, sL_1, sL_2, sL_3, upd_a, updL_a, vaup_a, Nat.reduceEqDiff, Ab_sz, Ab_tx, Ab_ns, Ab_sn, Ab_sx, Ab_ru, Ab_nl, Ab_lsh, Ab_ld, Ab_lm, Ab_lg, Ab_pd, Ab_px, Ab_py, Ab_pz, Ab_kn, Ab_kl, Ab_km]; omega
          by_cases d1 : y = 0
          · subst d1
            have n9 : (0 : Int32) < jI (3 + (B[z.toNat]).2.2.2.length) := by simp (disch := omega) only [jI_lit, jL_lit, jI_n, jI_add, jI_sub, jI_mul, jI_neg, jL_add, jL_sub, jL_mul, jL_neg, jI_lt, jI_le, jI_eq, jL_lt, jL_le, jL_eq, jI_c, jI_64, jL_32, jI_div, jL_div, jx, bnd, if_true, if_false, if_pos, if_neg, Int.toNat_natCast, Int.reduceToNat, Int.add_zero, Int.zero_add, Int.reduceAdd, Int.reduceSub, Int.reduceMul, Int.reduceNeg, Int.reduceLT, Int.reduceLE, jI_rem, sI_1, sI_2, sA_1, sA_2, sA_3, sL_1, sL_2, sL_3, upd_a, updL_a, vaup_a, Nat.reduceEqDiff, Ab_sz, Ab_tx, Ab_ns, Ab_sn, Ab_sx, Ab_ru, Ab_nl, Ab_lsh, Ab_ld, Ab_lm, Ab_lg, Ab_pd, Ab_px, Ab_py, Ab_pz, Ab_kn, Ab_kl, Ab_km]; omega
            simp only [n9, show ¬ (0 : Int32) < 0 by decide, show jI 0 = 0 from rfl, if_true, if_false]
            exact ⟨_, rfl, rfl⟩
          · by_cases d2 : y = 1
            · subst d2
              have n9 : (1 : Int32) < jI (3 + (B[z.toNat]).2.2.2.length) := by simp (disch := omega) only [jI_lit, jL_lit, jI_n, jI_add, jI_sub, jI_mul, jI_neg, jL_add, jL_sub, jL_mul, jL_neg, jI_lt, jI_le, jI_eq, jL_lt, jL_le, jL_eq, jI_c, jI_64, jL_32, jI_div, jL_div, jx, bnd, if_true, if_false, if_pos, if_neg, Int.toNat_natCast, Int.reduceToNat, Int.add_zero, Int.zero_add, Int.reduceAdd, Int.reduceSub, Int.reduceMul, Int.reduceNeg, Int.reduceLT, Int.reduceLE, jI_rem, sI_1, sI_2, sA_1, sA_2, sA_3, sL_1, sL_2, sL_3, upd_a, updL_a, vaup_a, Nat.reduceEqDiff, Ab_sz, Ab_tx, Ab_ns, Ab_sn, Ab_sx, Ab_ru, Ab_nl, Ab_lsh, Ab_ld, Ab_lm, Ab_lg, Ab_pd, Ab_px, Ab_py, Ab_pz, Ab_kn, Ab_kl, Ab_km]; omega
              simp only [n9, show ¬ (1 : Int32) < 0 by decide, show ¬ (1 : Int32) = 0 by decide, show jI 1 = 1 from rfl, if_true, if_false, jL_32]
              exact ⟨_, rfl, rfl⟩
            · by_cases d3 : y = 2
              · subst d3
                have n9 : (2 : Int32) < jI (3 + (B[z.toNat]).2.2.2.length) := by simp (disch := omega) only [jI_lit, jL_lit, jI_n, jI_add, jI_sub, jI_mul, jI_neg, jL_add, jL_sub, jL_mul, jL_neg, jI_lt, jI_le, jI_eq, jL_lt, jL_le, jL_eq, jI_c, jI_64, jL_32, jI_div, jL_div, jx, bnd, if_true, if_false, if_pos, if_neg, Int.toNat_natCast, Int.reduceToNat, Int.add_zero, Int.zero_add, Int.reduceAdd, Int.reduceSub, Int.reduceMul, Int.reduceNeg, Int.reduceLT, Int.reduceLE, jI_rem, sI_1, sI_2, sA_1, sA_2, sA_3, sL_1, sL_2, sL_3, upd_a, updL_a, vaup_a, Nat.reduceEqDiff, Ab_sz, Ab_tx, Ab_ns, Ab_sn, Ab_sx, Ab_ru, Ab_nl, Ab_lsh, Ab_ld, Ab_lm, Ab_lg, Ab_pd, Ab_px, Ab_py, Ab_pz, Ab_kn, Ab_kl, Ab_km]; omega
                simp only [n9, show ¬ (2 : Int32) < 0 by decide, show ¬ (2 : Int32) = 0 by decide, show ¬ (2 : Int32) = 1 by decide, show jI 2 = 2 from rfl, if_true, if_false]
                exact ⟨_, rfl, rfl⟩
              · have n5 : ¬ jI y = 0 := by rw [show (0 : Int32) = jI 0 from rfl, jI_eq (by omega) (by omega) (by omega) (by omega)]; omega
                have n6 : ¬ jI y = 1 := by rw [show (1 : Int32) = jI 1 from rfl, jI_eq (by omega) (by omega) (by omega) (by omega)]; omega
                have n7 : ¬ jI y = 2 := by rw [show (2 : Int32) = jI 2 from rfl, jI_eq (by omega) (by omega) (by omega) (by omega)]; omega
                have n8 : (3 : Int32) ≤ jI y := by simp (disch := omega) only [jI_lit, jL_lit, jI_n, jI_add, jI_sub, jI_mul, jI_neg, jL_add, jL_sub, jL_mul, jL_neg, jI_lt, jI_le, jI_eq, jL_lt, jL_le, jL_eq, jI_c, jI_64, jL_32, jI_div, jL_div, jx, bnd, if_true, if_false, if_pos, if_neg, Int.toNat_natCast, Int.reduceToNat, Int.add_zero, Int.zero_add, Int.reduceAdd, Int.reduceSub, Int.reduceMul, Int.reduceNeg, Int.reduceLT, Int.reduceLE, jI_rem, sI_1, sI_2, sA_1, sA_2, sA_3, sL_1, sL_2, sL_3, upd_a, updL_a, vaup_a, Nat.reduceEqDiff, Ab_sz, Ab_tx, Ab_ns, Ab_sn, Ab_sx, Ab_ru, Ab_nl, Ab_lsh, Ab_ld, Ab_lm, Ab_lg, Ab_pd, Ab_px, Ab_py, Ab_pz, Ab_kn, Ab_kl, Ab_km]; omega
                simp only [n4, n5, n6, n7, n8, if_true, if_false]
                have hcl := c_lineOf ok ps hb (k := y - 3) (by omega) (by omega)
                rw [← hls] at hcl
                rw [show ((z.toNat : Nat) : Int) = z from by omega] at hcl
                rw [show jI y - 3 = jI (y - 3) from jI_sub y 3, hcl]
                simp only [bnd]
                by_cases d4 : y < 3 + (B[z.toNat]).2.2.2.length
                · have n9 : jI y < jI (3 + (B[z.toNat]).2.2.2.length) := by simp (disch := omega) only [jI_lit, jL_lit, jI_n, jI_add, jI_sub, jI_mul, jI_neg, jL_add, jL_sub, jL_mul, jL_neg, jI_lt, jI_le, jI_eq, jL_lt, jL_le, jL_eq, jI_c, jI_64, jL_32, jI_div, jL_div, jx, bnd, if_true, if_false, if_pos, if_neg, Int.toNat_natCast, Int.reduceToNat, Int.add_zero, Int.zero_add, Int.reduceAdd, Int.reduceSub, Int.reduceMul, Int.reduceNeg, Int.reduceLT, Int.reduceLE, jI_rem, sI_1, sI_2, sA_1, sA_2, sA_3, sL_1, sL_2, sL_3, upd_a, updL_a, vaup_a, Nat.reduceEqDiff, Ab_sz, Ab_tx, Ab_ns, Ab_sn, Ab_sx, Ab_ru, Ab_nl, Ab_lsh, Ab_ld, Ab_lm, Ab_lg, Ab_pd, Ab_px, Ab_py, Ab_pz, Ab_kn, Ab_kl, Ab_km]; omega
                  have hyl : (y - 3).toNat < (B[z.toNat]).2.2.2.length := by omega
                  have e5 := List.getElem?_eq_getElem hyl
                  have t5 := ps.br.l z.toNat _ e0 _ _ e5
                  have i9 : ix (60 * jI z + jI y - 3) 3600 = true := by rw [show (60 : Int32) = jI 60 from rfl, show (3 : Int32) = jI 3 from rfl, jI_mul, jI_add, jI_sub]; exact jx (by omega) (by omega) (by omega)
                  have e9 : (60 * jI z + jI y - 3).toNatClampNeg = 60 * z.toNat + (y - 3).toNat := by rw [show (60 : Int32) = jI 60 from rfl, show (3 : Int32) = jI 3 from rfl, jI_mul, jI_add, jI_sub, jI_c (by omega) (by omega)]; omega
                  simp only [n9, if_true, i9, e9, t5, e5]
                  exact ⟨_, rfl, rfl⟩
                · have n9 : ¬ jI y < jI (3 + (B[z.toNat]).2.2.2.length) := by simp (disch := omega) only [jI_lit, jL_lit, jI_n, jI_add, jI_sub, jI_mul, jI_neg, jL_add, jL_sub, jL_mul, jL_neg, jI_lt, jI_le, jI_eq, jL_lt, jL_le, jL_eq, jI_c, jI_64, jL_32, jI_div, jL_div, jx, bnd, if_true, if_false, if_pos, if_neg, Int.toNat_natCast, Int.reduceToNat, Int.add_zero, Int.zero_add, Int.reduceAdd, Int.reduceSub, Int.reduceMul, Int.reduceNeg, Int.reduceLT, Int.reduceLE, jI_rem, sI_1, sI_2, sA_1, sA_2, sA_3, sL_1, sL_2, sL_3, upd_a, updL_a, vaup_a, Nat.reduceEqDiff, Ab_sz, Ab_tx, Ab_ns, Ab_sn, Ab_sx, Ab_ru, Ab_nl, Ab_lsh, Ab_ld, Ab_lm, Ab_lg, Ab_pd, Ab_px, Ab_py, Ab_pz, Ab_kn, Ab_kl, Ab_km]; omega
                  have e5 : (B[z.toNat]).2.2.2[(y - 3).toNat]? = none := List.getElem?_eq_none (by omega)
                  simp only [n9, if_false, e5]
                  exact ⟨_, rfl, rfl⟩
end PN
