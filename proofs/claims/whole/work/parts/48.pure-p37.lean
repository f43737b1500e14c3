abbrev Qc : Type := Nat × Nat × Nat
abbrev ltD (a : Ab) (d : Nat) : Nat → Bool := fun i => decide (a.ld i < d)
abbrev eqD (a : Ab) (d : Nat) : Nat → Bool := fun i => decide (a.ld i = d)
abbrev lmc (a : Ab) : Nat → Nat := fun i => a.lm i * cutLen a i
theorem ltD_s (a : Ab) (d : Nat) (f : Nat → Nat) (n : Nat) : sumL f (ltD a (d + 1)) n = sumL f (ltD a d) n + sumL f (eqD a d) n := by
  refine sumL_add (fun i => ?_) (fun i => ?_) n
  · simp only [ltD, eqD]
    by_cases c1 : a.ld i < d
    · simp [c1]; omega
    · by_cases c2 : a.ld i = d
      · simp [c2]
      · simp [c1, c2]; omega
  · simp only [ltD, eqD, decide_eq_true_eq]; omega
def PS (a : Ab) (d : Nat) (B : List Bar) (Q : List Qc) (nd ne : Nat) (pl md : MS) : Prop := (pl.1 0 = jI Q.length) ∧ (∀ (q : Nat) (x : Qc), Q[q]? = some x → pl.2.1 0 q = jI x.1 ∧ pl.2.1 1 q = jI x.2.1 ∧ pl.2.1 2 q = jI x.2.2 ∧ x.2.2 < B.length ∧ x.1 < a.nl) ∧ (BR B pl md) ∧ (B.length ≤ Q.length) ∧ (∀ (b : Nat) (x : Bar), B[b]? = some x → x.2.2.2 = (Q.filter (fun y => decide (y.2.2 = b))).map (·.1)) ∧ (∀ (b : Nat) (x : Bar), B[b]? = some x → x.2.1 ≤ 30000 ∧ x.1 ≤ 40) ∧ (Q.length = sumL a.lm (ltD a d) a.nl) ∧ ((Q.map (·.2.1)).sum = sumL (lmc a) (ltD a d) a.nl) ∧ (pl.1 2 = jI nd) ∧ (pl.1 3 = jI ne) ∧ (md.1 6 = jI nd) ∧ (md.1 7 = jI ne)
theorem PS.q0 {a : Ab} {d : Nat} {B : List Bar} {Q : List Qc} {nd ne : Nat} {pl md : MS} (h9 : PS a d B Q nd ne pl md) : pl.1 0 = jI Q.length := h9.1
theorem PS.qt {a : Ab} {d : Nat} {B : List Bar} {Q : List Qc} {nd ne : Nat} {pl md : MS} (h9 : PS a d B Q nd ne pl md) : ∀ (q : Nat) (x : Qc), Q[q]? = some x → pl.2.1 0 q = jI x.1 ∧ pl.2.1 1 q = jI x.2.1 ∧ pl.2.1 2 q = jI x.2.2 ∧ x.2.2 < B.length ∧ x.1 < a.nl := h9.2.1
theorem PS.br {a : Ab} {d : Nat} {B : List Bar} {Q : List Qc} {nd ne : Nat} {pl md : MS} (h9 : PS a d B Q nd ne pl md) : BR B pl md := h9.2.2.1
theorem PS.bl {a : Ab} {d : Nat} {B : List Bar} {Q : List Qc} {nd ne : Nat} {pl md : MS} (h9 : PS a d B Q nd ne pl md) : B.length ≤ Q.length := h9.2.2.2.1
theorem PS.ls {a : Ab} {d : Nat} {B : List Bar} {Q : List Qc} {nd ne : Nat} {pl md : MS} (h9 : PS a d B Q nd ne pl md) : ∀ (b : Nat) (x : Bar), B[b]? = some x → x.2.2.2 = (Q.filter (fun y => decide (y.2.2 = b))).map (·.1) := h9.2.2.2.2.1
theorem PS.zb {a : Ab} {d : Nat} {B : List Bar} {Q : List Qc} {nd ne : Nat} {pl md : MS} (h9 : PS a d B Q nd ne pl md) : ∀ (b : Nat) (x : Bar), B[b]? = some x → x.2.1 ≤ 30000 ∧ x.1 ≤ 40 := h9.2.2.2.2.2.1
theorem PS.ct {a : Ab} {d : Nat} {B : List Bar} {Q : List Qc} {nd ne : Nat} {pl md : MS} (h9 : PS a d B Q nd ne pl md) : Q.length = sumL a.lm (ltD a d) a.nl := h9.2.2.2.2.2.2.1
theorem PS.sm {a : Ab} {d : Nat} {B : List Bar} {Q : List Qc} {nd ne : Nat} {pl md : MS} (h9 : PS a d B Q nd ne pl md) : (Q.map (·.2.1)).sum = sumL (lmc a) (ltD a d) a.nl := h9.2.2.2.2.2.2.2.1
theorem PS.c2 {a : Ab} {d : Nat} {B : List Bar} {Q : List Qc} {nd ne : Nat} {pl md : MS} (h9 : PS a d B Q nd ne pl md) : pl.1 2 = jI nd := h9.2.2.2.2.2.2.2.2.1
theorem PS.c3 {a : Ab} {d : Nat} {B : List Bar} {Q : List Qc} {nd ne : Nat} {pl md : MS} (h9 : PS a d B Q nd ne pl md) : pl.1 3 = jI ne := h9.2.2.2.2.2.2.2.2.2.1
theorem PS.m6 {a : Ab} {d : Nat} {B : List Bar} {Q : List Qc} {nd ne : Nat} {pl md : MS} (h9 : PS a d B Q nd ne pl md) : md.1 6 = jI nd := h9.2.2.2.2.2.2.2.2.2.2.1
theorem PS.m7 {a : Ab} {d : Nat} {B : List Bar} {Q : List Qc} {nd ne : Nat} {pl md : MS} (h9 : PS a d B Q nd ne pl md) : md.1 7 = jI ne := h9.2.2.2.2.2.2.2.2.2.2.2
theorem PS.mk {a : Ab} {d : Nat} {B : List Bar} {Q : List Qc} {nd ne : Nat} {pl md : MS} (u_q0 : pl.1 0 = jI Q.length) (u_qt : ∀ (q : Nat) (x : Qc), Q[q]? = some x → pl.2.1 0 q = jI x.1 ∧ pl.2.1 1 q = jI x.2.1 ∧ pl.2.1 2 q = jI x.2.2 ∧ x.2.2 < B.length ∧ x.1 < a.nl) (u_br : BR B pl md) (u_bl : B.length ≤ Q.length) (u_ls : ∀ (b : Nat) (x : Bar), B[b]? = some x → x.2.2.2 = (Q.filter (fun y => decide (y.2.2 = b))).map (·.1)) (u_zb : ∀ (b : Nat) (x : Bar), B[b]? = some x → x.2.1 ≤ 30000 ∧ x.1 ≤ 40) (u_ct : Q.length = sumL a.lm (ltD a d) a.nl) (u_sm : (Q.map (·.2.1)).sum = sumL (lmc a) (ltD a d) a.nl) (u_c2 : pl.1 2 = jI nd) (u_c3 : pl.1 3 = jI ne) (u_m6 : md.1 6 = jI nd) (u_m7 : md.1 7 = jI ne) : PS a d B Q nd ne pl md := ⟨u_q0, u_qt, u_br, u_bl, u_ls, u_zb, u_ct, u_sm, u_c2, u_c3, u_m6, u_m7⟩
section RN
variable {a : Ab} {nl : Nat} {nT : Nat → Nat} {LS TS : Nat → MS} {FP : Nat → Bool} {FS : Nat → MS} {bc sg tr tu ff pl lw md : MS} {d nd ne : Nat} {B : List Bar} {Q : List Qc}
theorem ps_end {c F : Nat} {ln g : Nat → Nat} {pl0 md0 : MS} {B2 : List Bar} {asg : Nat → Option Nat} (ok : Ok a) (hd : d ≤ 40) (ps : PS a d B Q nd ne pl md) (hF : F = Q.length) (h0 : pl0.2.1 2 = pl.2.1 2) (h01 : ∀ k q, q < F → pl0.2.1 k q = pl.2.1 k q) (hc : c = sumL a.lm (eqD a d) a.nl) (hs : ((List.range c).map g).sum = sumL (lmc a) (eqD a d) a.nl) (hln : ∀ p, p < c → ln p < a.nl)
    {nd2 ne2 : Nat} (k2 : pl0.1 2 = jI nd2) (k3 : pl0.1 3 = jI ne2) (k6 : md0.1 6 = jI nd2) (k7 : md0.1 7 = jI ne2) {p2 m2 : MS} (cs : CS d c F ln g B pl0 md0 B2 asg p2 m2) (hall : ∀ q, q < c → asg q ≠ none) (hB2 : B2.length ≤ B.length + c) :
    PS a (d + 1) B2 (Q ++ (List.range c).map (fun p => (ln p, g p, (asg p).getD 0))) nd2 ne2 p2 m2 := by
  subst hF
  have hlen : (Q ++ (List.range c).map (fun p => (ln p, g p, (asg p).getD 0))).length = Q.length + c := by simp
  have hag : ∀ p, p < c → B.length ≤ (asg p).getD 0 ∧ (asg p).getD 0 < B2.length ∧ p2.2.1 2 (Q.length + p) = jI ((asg p).getD 0) ∧ asg p = some ((asg p).getD 0) := fun p hp => by
    cases e : asg p with
    | none => exact absurd e (hall p hp)
    | some b =>
      have := cs.ag p hp b e
      exact ⟨this.2.1, this.2.2, this.1, rfl⟩
  refine ⟨by rw [hlen]; exact cs.pn, fun q x hx => ?_, cs.br, by rw [hlen]; have := ps.bl; omega, fun b x hx => ?_, fun b x hx => ?_, ?_, ?_, ?_, ?_, ?_, ?_⟩
  · by_cases c1 : q < Q.length
    · rw [List.getElem?_append_left c1] at hx
      have h1 := ps.qt q x hx
      have := cs.bl
      rw [cs.kp.2.1, cs.kp.2.2.1, cs.kp.2.2.2 q c1, h01 0 q c1, h01 1 q c1, h01 2 q c1]
      exact ⟨h1.1, h1.2.1, h1.2.2.1, by omega, h1.2.2.2.2⟩
    · rw [List.getElem?_append_right (by omega)] at hx
      have hq := (List.getElem?_eq_some_iff.mp hx).1
      rw [List.length_map, List.length_range] at hq
      rw [List.getElem?_map, List.getElem?_range hq] at hx
      simp at hx
      subst hx
      have pp := cs.pp (q - Q.length) hq
      have ga := hag (q - Q.length) hq
      rw [show Q.length + (q - Q.length) = q from by omega] at pp ga
      exact ⟨pp.1, pp.2.1, ga.2.2.1, ga.2.1, hln _ hq⟩
  · rw [List.filter_append, List.map_append]
    by_cases c1 : b < B.length
    · rw [cs.b0 b c1] at hx
      rw [ps.ls b x hx]
      have : ((List.range c).map (fun p => (ln p, g p, (asg p).getD 0))).filter (fun y => decide (y.2.2 = b)) = [] := by
        rw [List.filter_eq_nil_iff]
        intro y hy
        obtain ⟨p, hp, rfl⟩ := List.mem_map.mp hy
        have := hag p (List.mem_range.mp hp)
        simp only [decide_eq_true_eq]; omega
      rw [this]; simp
    · rw [cs.ls b x (by omega) hx]
      have h1 : Q.filter (fun y => decide (y.2.2 = b)) = [] := by
        rw [List.filter_eq_nil_iff]
        intro y hy
        obtain ⟨q, hq⟩ := List.getElem?_of_mem hy
        have := (ps.qt q y hq).2.2.2.1
        simp only [decide_eq_true_eq]; omega
      rw [h1, List.map_nil, List.nil_append, List.filter_map, List.map_map]
      have h2 : (List.range c).filter ((fun y : Qc => decide (y.2.2 = b)) ∘ fun p => (ln p, g p, (asg p).getD 0)) = (List.range c).filter (fun p => decide (asg p = some b)) := by
        apply List.filter_congr
        intro p hp
        have := (hag p (List.mem_range.mp hp)).2.2.2
        show decide ((asg p).getD 0 = b) = decide (asg p = some b)
        apply decide_eq_decide.mpr
        constructor
        · intro h; rw [this, h]
        · intro h; rw [h]; rfl
      rw [h2]
      rfl
  · by_cases c1 : b < B.length
    · rw [cs.b0 b c1] at hx; exact ps.zb b x hx
    · exact ⟨cs.zb b x (by omega) hx, by rw [cs.dm b x (by omega) hx]; exact hd⟩
  · rw [hlen, ltD_s, ps.ct, hc]
  · rw [List.map_append, List.sum_append, ltD_s, ps.sm, ← hs, List.map_map]; rfl
  · rw [cs.kp.1 2 (by omega)]; exact k2
  · rw [cs.kp.1 3 (by omega)]; exact k3
  · rw [cs.km.1 6 (by omega)]; exact k6
  · rw [cs.km.1 7 (by omega)]; exact k7
theorem m_left (ok : Ok a) (hd : d < 41) (y1 : Int64) : ∀ (n k : Nat) (md : MS), RM a md → k ≤ 3 → 3 - k < n → (∀ j, j < k → j < a.kn d → md.2.1 9 j = jI (a.km d j)) →
    ∃ v m2, l_Md_run_84 n y1 (jI d) (jI k) md = some (v, m2) ∧ m2.1 = md.1 ∧ m2.2.2 = md.2.2 ∧ (∀ j, j ≠ 9 → m2.2.1 j = md.2.1 j) ∧ (∀ j, j < a.kn d → m2.2.1 9 j = jI (a.km d j)) := by
  intro n
  have hk3 := ok.kn d
  induction n with
  | zero => intro k md _ _ h; omega
  | succ n ih =>
    intro k md rm hk hn h9
    rw [l_Md_run_84]
    have i1 : ix (jI (d : Int)) 41 = true := jx (by omega) (by omega) (by omega)
    have c1 : (jI (d : Int)).toNatClampNeg = d := by rw [jI_c (by omega) (by omega)]; omega
    by_cases e : k = 3
    · subst e
      rw [if_pos (show (3 : Int32) ≤ jI ((3 : Nat) : Int) by decide)]
      exact ⟨_, md, rfl, rfl, rfl, fun _ _ => rfl, fun j hj => h9 j (by omega) hj⟩
    · have n0 : ¬ (3 : Int32) ≤ jI k := by simp (disch := omega) only [jI_lit, jL_lit, jI_n, jI_add, jI_sub, jI_mul, jI_neg, jL_add, jL_sub, jL_mul, jL_neg, jI_lt, jI_le, jI_eq, jL_lt, jL_le, jL_eq, jI_c, jI_64, jL_32, jI_div, jL_div, jx, bnd, if_true, if_false, if_pos, if_neg, Int.toNat_natCast, Int.reduceToNat, Int.add_zero, Int.zero_add, Int.reduceAdd, Int.reduceSub, Int.reduceMul, Int.reduceNeg, Int.reduceLT, Int.reduceLE, jI_rem, sI_1, sI_2, sA_1, sA_2, sA_3, sL_1, sL_2, sL_3, upd_a, updL_a, vaup_a, Nat.reduceEqDiff, Ab_sz, Ab_tx, Ab_ns, Ab_sn, Ab_sx, Ab_ru, Ab_nl, Ab_lsh, Ab_ld, Ab_lm, Ab_lg, Ab_pd, Ab_px, Ab_py, Ab_pz, Ab_kn, Ab_kl, Ab_km]; omega
      have i2 : ix (jI (k : Int)) 3 = true := jx (by omega) (by omega) (by omega)
      have c2 : (jI (k : Int)).toNatClampNeg = k := by rw [jI_c (by omega) (by omega)]; omega
      have e8 : jI (k : Int) + 1 = jI ((k + 1 : Nat) : Int) := jI_add _ 1
      simp only [n0, if_false, i1, c1, if_true, rm.kn d hd, i2, c2, e8]
      have fin : ∀ w : Int32, (k < a.kn d → w = jI (a.km d k)) → ∃ v m2, ((some (sA md 9 (upd (md.2.1 9) k w))).bind fun md17 => l_Md_run_84 n y1 (jI d) (jI ((k + 1 : Nat) : Int)) md17) = some (v, m2) ∧ m2.1 = md.1 ∧ m2.2.2 = md.2.2 ∧ (∀ j, j ≠ 9 → m2.2.1 j = md.2.1 j) ∧ (∀ j, j < a.kn d → m2.2.1 9 j = jI (a.km d j)) := fun w hw => by
        have k3 : Keep3 md (sA md 9 (upd (md.2.1 9) k w)) := ⟨fun _ _ => rfl, fun j hj => by simp (disch := omega) only [jI_lit, jL_lit, jI_n, jI_add, jI_sub, jI_mul, jI_neg, jL_add, jL_sub, jL_mul, jL_neg, jI_lt, jI_le, jI_eq, jL_lt, jL_le, jL_eq, jI_c, jI_64, jL_32, jI_div, jL_div, jx, bnd, if_true, if_false, if_pos, if_neg, Int.toNat_natCast, Int.reduceToNat, Int.add_zero, Int.zero_add, Int.reduceAdd, Int.reduceSub, Int.reduceMul, Int.reduceNeg, Int.reduceLT, Int.reduceLE, jI_rem, sI_1, sI_2, sA_1, sA_2, sA_3, sL_1, sL_2, sL_3, upd_a, updL_a, vaup_a, Nat.reduceEqDiff, Ab_sz, Ab_tx, Ab_ns, Ab_sn, Ab_sx, Ab_ru, Ab_nl, Ab_lsh, Ab_ld, Ab_lm, Ab_lg, Ab_pd, Ab_px, Ab_py, Ab_pz, Ab_kn, Ab_kl, Ab_km], fun _ _ => rfl⟩
        obtain ⟨v, m2, g1, g2, g3, g4, g5⟩ := ih (k + 1) (sA md 9 (upd (md.2.1 9) k w)) (rm.kept3 k3) (by omega) (by omega) (fun j hj hj2 => by
          by_cases ej : j = k
          · subst ej; simp (disch := omega) only [jI_lit, jL_lit, jI_n, jI_add, jI_sub, jI_mul, jI_neg, jL_add, jL_sub, jL_mul, jL_neg, jI_lt, jI_le, jI_eq, jL_lt, jL_le, jL_eq, jI_c, jI_64, jL_32, jI_div, jL_div, jx, bnd, if_true, if_false, if_pos, if_neg, Int.toNat_natCast, Int.reduceToNat, Int.add_zero, Int.zero_add, Int.reduceAdd, Int.reduceSub, Int.reduceMul, Int.reduceNeg, Int.reduceLT, Int.reduceLE, jI_rem, sI_1, sI_2, sA_1, sA_2, sA_3, sL_1, sL_2, sL_3, upd_a, updL_a, vaup_a, Nat.reduceEqDiff, Ab_sz, Ab_tx, Ab_ns, Ab_sn, Ab_sx, Ab_ru, Ab_nl, Ab_lsh, Ab_ld, Ab_lm, Ab_lg, Ab_pd, Ab_px, Ab_py, Ab_pz, Ab_kn, Ab_kl, Ab_km]; exact hw hj2
          · simp (disch := omega) only [jI_lit, jL_lit, jI_n, jI_add, jI_sub, jI_mul, jI_neg, jL_add, jL_sub, jL_mul, jL_neg, jI_lt, jI_le, jI_eq, jL_lt, jL_le, jL_eq, jI_c, jI_64, jL_32, jI_div, jL_div, jx, bnd, if_true, if_false, if_pos, if_neg, Int.toNat_natCast, Int.reduceToNat, Int.add_zero, Int.zero_add, Int.reduceAdd, Int.reduceSub, Int.reduceMul, Int.reduceNeg, Int.reduceLT, Int.reduceLE, jI_rem, sI_1, sI_2, sA_1, sA_2, sA_3, sL_1, sL_2, sL_3, upd_a, updL_a, vaup_a, Nat.reduceEqDiff, Ab_sz, Ab_tx, Ab_ns, Ab_sn, Ab_sx, Ab_ru, Ab_nl, Ab_lsh, Ab_ld, Ab_lm, Ab_lg, Ab_pd, Ab_px, Ab_py, Ab_pz, Ab_kn, Ab_kl, Ab_km]; exact h9 j (by omega) hj2)
        exact ⟨v, m2, g1, g2, g3, fun j hj => by rw [g4 j hj]; simp (disch := omega) only [jI_lit, jL_lit, jI_n, jI_add, jI_sub, jI_mul, jI_neg, jL_add, jL_sub, jL_mul, jL_neg, jI_lt, jI_le, jI_eq, jL_lt, jL_le, jL_eq, jI_c, jI_64, jL_32, jI_div, jL_div, jx, bnd, if_true, if_false, if_pos, if_neg, Int.toNat_natCast, Int.reduceToNat, Int.add_zero, Int.zero_add, Int.reduceAdd, Int.reduceSub, Int.reduceMul, Int.reduceNeg, Int.reduceLT, Int.reduceLE, jI_rem, sI_1, sI_2, sA_1, sA_2, sA_3, sL_1, sL_2, sL_3, upd_a, updL_a, vaup_a, Nat.reduceEqDiff, Ab_sz, Ab_tx, Ab_ns, Ab_sn, Ab_sx, Ab_ru, Ab_nl, Ab_lsh, Ab_ld, Ab_lm, Ab_lg, Ab_pd, Ab_px, Ab_py, Ab_pz, Ab_kn, Ab_kl, Ab_km], g5⟩
      by_cases ck : a.kn d ≤ k
      · have n1 : jI (a.kn d : Int) ≤ jI k := by simp (disch := omega) only [jI_lit, jL_lit, jI_n, jI_add, jI_sub, jI_mul, jI_neg, jL_add, jL_sub, jL_mul, jL_neg, jI_lt, jI_le, jI_eq, jL_lt, jL_le, jL_eq, jI_c, jI_64, jL_32, jI_div, jL_div, jx, bnd, if_true, if_false, if_pos, if_neg, Int.toNat_natCast, Int.reduceToNat, Int.add_zero, Int.zero_add, Int.reduceAdd, Int.reduceSub, Int.reduceMul, Int.reduceNeg, Int.reduceLT, Int.reduceLE, jI_rem, sI_1, sI_2, sA_1, sA_2, sA_3, sL_1, sL_2, sL_3, upd_a, updL_a, vaup_a, Nat.reduceEqDiff, Ab_sz, Ab_tx, Ab_ns, Ab_sn, Ab_sx, Ab_ru, Ab_nl, Ab_lsh, Ab_ld, Ab_lm, Ab_lg, Ab_pd, Ab_px, Ab_py, Ab_pz, Ab_kn, Ab_kl, Ab_km]; omega
        simp only [n1, if_true]
        exact fin 0 (fun h => by omega)
      · have n1 : ¬ jI (a.kn d : Int) ≤ jI k := by simp (disch := omega) only [jI_lit, jL_lit, jI_n, jI_add, jI_sub, jI_mul, jI_neg, jL_add, jL_sub, jL_mul, jL_neg, jI_lt, jI_le, jI_eq, jL_lt, jL_le, jL_eq, jI_c, jI_64, jL_32, jI_div, jL_div, jx, bnd, if_true, if_false, if_pos, if_neg, Int.toNat_natCast, Int.reduceToNat, Int.add_zero, Int.zero_add, Int.reduceAdd, Int.reduceSub, Int.reduceMul, Int.reduceNeg, Int.reduceLT, Int.reduceLE, jI_rem, sI_1, sI_2, sA_1, sA_2, sA_3, sL_1, sL_2, sL_3, upd_a, updL_a, vaup_a, Nat.reduceEqDiff, Ab_sz, Ab_tx, Ab_ns, Ab_sn, Ab_sx, Ab_ru, Ab_nl, Ab_lsh, Ab_ld, Ab_lm, Ab_lg, Ab_pd, Ab_px, Ab_py, Ab_pz, Ab_kn, Ab_kl, Ab_km]; omega
        have i3 : ix (3 * jI (d : Int) + jI k) 123 = true := by rw [show (3 : Int32) = jI 3 from rfl, jI_mul, jI_add]; exact jx (by omega) (by omega) (by omega)
        have c3 : (3 * jI (d : Int) + jI k).toNatClampNeg = 3 * d + k := by rw [show (3 : Int32) = jI 3 from rfl, jI_mul, jI_add, jI_c (by omega) (by omega)]; omega
        simp only [n1, if_false, i3, c3, if_true, rm.km d hd k (by omega)]
        exact fin _ (fun _ => rfl)
end RN
section RN
variable {a : Ab} {nl : Nat} {nT : Nat → Nat} {LS TS : Nat → MS} {FP : Nat → Bool} {FS : Nat → MS} {bc sg tr tu ff pl lw md : MS} {d nd ne : Nat} {B : List Bar} {Q : List Qc}
abbrev lnP (P : List Pc) (p : Nat) : Nat := (P.getD p (0, 0)).1
abbrev gP (P : List Pc) (p : Nat) : Nat := (P.getD p (0, 0)).2
theorem getD_of {P : List Pc} {p : Nat} {x : Pc} (h : P[p]? = some x) : P.getD p (0, 0) = x := by rw [List.getD_eq_getElem?_getD, h]; rfl
theorem psum_g (P : List Pc) : ((List.range P.length).map (gP P)).sum = psum P := by
  unfold psum
  congr 1
  apply List.ext_getElem
  · simp
  · intro i h1 h2
    have hi : i < P.length := by simpa using h1
    simp only [List.getElem_map, List.getElem_range]
    show (P.getD i (0, 0)).2 = _
    rw [getD_of (List.getElem?_eq_getElem hi)]
theorem psum_b {P : List Pc} {p : Nat} (hP : ∀ x ∈ P, x.2 ≤ 120000 ∧ x.1 < a.nl) (hp : p < P.length) : gP P p ≤ 120000 ∧ lnP P p < a.nl := by
  have e := getD_of (List.getElem?_eq_getElem hp)
  show (P.getD p (0, 0)).2 ≤ _ ∧ (P.getD p (0, 0)).1 < _
  rw [e]
  exact hP _ (List.mem_of_getElem? (List.getElem?_eq_getElem hp))
theorem cs_new {P : List Pc} {pl0 md0 : MS} (gp : GP Q.length P pl0 md0) (br : BR B pl0 md0) : CS d P.length Q.length (lnP P) (gP P) B pl0 md0 B (fun _ => none) pl0 md0 := by
  refine ⟨gp.n, gp.m, fun p hp => ?_, br, fun p hp b h => (by cases h), fun b x hb hx => ?_, fun _ _ => rfl, Nat.le_refl _, fun b x hb hx => ?_, fun b x hb hx => ?_, ⟨fun _ _ => rfl, rfl, rfl, fun _ _ => rfl⟩, ⟨fun _ _ => rfl, fun _ _ => rfl, fun _ _ => rfl⟩⟩
  · have e := List.getElem?_eq_getElem hp
    have := gp.t p _ e
    show pl0.2.1 0 _ = jI ((P.getD p (0, 0)).1) ∧ pl0.2.1 1 _ = jI ((P.getD p (0, 0)).2) ∧ md0.2.1 10 p = jI ((P.getD p (0, 0)).1) ∧ md0.2.2 6 p = jL ((P.getD p (0, 0)).2)
    rw [getD_of e]; exact this
  · have := (List.getElem?_eq_some_iff.mp hx).1; omega
  · have := (List.getElem?_eq_some_iff.mp hx).1; omega
  · have := (List.getElem?_eq_some_iff.mp hx).1; omega
theorem m_none (hd : d < 41) {c : Nat} (hc : 0 < c) (m3 : md.1 3 = jI c) (m7 : md.2.1 7 d = jI 0) {n5 : Nat} (m5 : md.1 5 = jI n5) (h5 : n5 ≤ 60) (hc6 : c ≤ 60) : f_Md_cutInTurn md (jI d) = some (0, md) := by
  obtain ⟨n, hn⟩ := fu_k 2 (by omega)
  unfold f_Md_cutInTurn
  rw [m5]
  simp only [bnd]
  rw [hn, l_Md_cutInTurn_7, m3, if_neg (show ¬ jI (c : Int) ≤ 0 by simp (disch := omega) only [jI_lit, jL_lit, jI_n, jI_add, jI_sub, jI_mul, jI_neg, jL_add, jL_sub, jL_mul, jL_neg, jI_lt, jI_le, jI_eq, jL_lt, jL_le, jL_eq, jI_c, jI_64, jL_32, jI_div, jL_div, jx, bnd, if_true, if_false, if_pos, if_neg, Int.toNat_natCast, Int.reduceToNat, Int.add_zero, Int.zero_add, Int.reduceAdd, Int.reduceSub, Int.reduceMul, Int.reduceNeg, Int.reduceLT, Int.reduceLE, jI_rem, sI_1, sI_2, sA_1, sA_2, sA_3, sL_1, sL_2, sL_3, upd_a, updL_a, vaup_a, Nat.reduceEqDiff, Ab_sz, Ab_tx, Ab_ns, Ab_sn, Ab_sx, Ab_ru, Ab_nl, Ab_lsh, Ab_ld, Ab_lm, Ab_lg, Ab_pd, Ab_px, Ab_py, Ab_pz, Ab_kn, Ab_kl, Ab_km]; omega)]
  have h1 : l_Md_cutInTurn_18 fu (jI d) (jI n5) 0 (jI n5) md = some (jI n5) := by
    rw [hn, l_Md_cutInTurn_18, m5, if_pos (Int32.le_refl _)]
  rw [h1]
  simp only [bnd]
  rw [m5, if_pos rfl, show ix 0 60 = true from rfl]
  simp only [if_true]
  have h2 : ∀ w, f_Md_kindFor md (jI d) w = some (-2) := fun w => by
    unfold f_Md_kindFor
    have i1 : ix (jI (d : Int)) 41 = true := jx (by omega) (by omega) (by omega)
    have c1 : (jI (d : Int)).toNatClampNeg = d := by rw [jI_c (by omega) (by omega)]; omega
    rw [hn, l_Md_kindFor_7]
    simp only [i1, c1, m7, if_true, show jI 0 ≤ (0 : Int32) by decide, bnd]
  rw [h2]
  simp only [bnd, if_true]
def sf0 : MS := (fun _ => jI 0, fun _ _ => jI 0, fun _ _ => 0)
def Dia (a : Ab) (nl : Nat) (nT : Nat → Nat) (LS TS : Nat → MS) (FP : Nat → Bool) (FS : Nat → MS) (bc sg tr tu ff pl lw md : MS) (d : Nat) (z : Int) : Prop := (∃ (i : Nat) (f2 p2 l2 : MS), i < a.nl ∧ a.ld i = d ∧ cutLen a i = 0 ∧ f_Bc_cutDiameter nl nT LS TS FP FS bc sg tr tu ff pl lw (jI d) (jI z) = some (0, bc, sg, tr, tu, f2, p2, l2)) ∨ (∃ (f2 p2 l2 m2 : MS), f_Bc_cutDiameter nl nT LS TS FP FS bc sg tr tu ff pl lw (jI d) (jI z) = some (0, bc, sg, tr, tu, f2, p2, l2) ∧ (∀ n, l_Md_run_63 (n + 1) (jL z) (jI d) md = some (jI (-1), m2)) ∧ Keep3 md m2 ∧ m2.1 4 = md.1 4) ∨ (∃ (f2 p2 l2 m2 : MS) (B2 : List Bar) (Q2 : List Qc) (nd2 ne2 : Nat), f_Bc_cutDiameter nl nT LS TS FP FS bc sg tr tu ff pl lw (jI d) (jI z) = some (1, bc, sg, tr, tu, f2, p2, l2) ∧ (∀ n, l_Md_run_63 (n + 1) (jL z) (jI d) md = l_Md_run_63 n (jL z) (jI ((d + 1 : Nat) : Int)) m2) ∧ Keep3 md m2 ∧ m2.1 4 = md.1 4 ∧ (∀ i, i < a.nl → a.ld i = d → 0 < cutLen a i) ∧ PS a (d + 1) B2 Q2 nd2 ne2 p2 m2)
theorem Dia.zero {a : Ab} {nl : Nat} {nT : Nat → Nat} {LS TS : Nat → MS} {FP : Nat → Bool} {FS : Nat → MS} {bc sg tr tu ff pl lw md : MS} {d : Nat} {z : Int} (i : Nat) (f2 p2 l2 : MS) (hi : i < a.nl) (hd : a.ld i = d) (hz : cutLen a i = 0) (e : f_Bc_cutDiameter nl nT LS TS FP FS bc sg tr tu ff pl lw (jI d) (jI z) = some (0, bc, sg, tr, tu, f2, p2, l2)) : Dia a nl nT LS TS FP FS bc sg tr tu ff pl lw md d z := Or.inl ⟨i, f2, p2, l2, hi, hd, hz, e⟩
theorem Dia.bad {a : Ab} {nl : Nat} {nT : Nat → Nat} {LS TS : Nat → MS} {FP : Nat → Bool} {FS : Nat → MS} {bc sg tr tu ff pl lw md : MS} {d : Nat} {z : Int} (f2 p2 l2 m2 : MS) (e : f_Bc_cutDiameter nl nT LS TS FP FS bc sg tr tu ff pl lw (jI d) (jI z) = some (0, bc, sg, tr, tu, f2, p2, l2)) (em : ∀ n, l_Md_run_63 (n + 1) (jL z) (jI d) md = some (jI (-1), m2)) (k : Keep3 md m2) (k4 : m2.1 4 = md.1 4) : Dia a nl nT LS TS FP FS bc sg tr tu ff pl lw md d z := Or.inr (Or.inl ⟨f2, p2, l2, m2, e, em, k, k4⟩)
theorem Dia.good {a : Ab} {nl : Nat} {nT : Nat → Nat} {LS TS : Nat → MS} {FP : Nat → Bool} {FS : Nat → MS} {bc sg tr tu ff pl lw md : MS} {d : Nat} {z : Int} (f2 p2 l2 m2 : MS) (B2 : List Bar) (Q2 : List Qc) (nd2 ne2 : Nat) (e : f_Bc_cutDiameter nl nT LS TS FP FS bc sg tr tu ff pl lw (jI d) (jI z) = some (1, bc, sg, tr, tu, f2, p2, l2)) (em : ∀ n, l_Md_run_63 (n + 1) (jL z) (jI d) md = l_Md_run_63 n (jL z) (jI ((d + 1 : Nat) : Int)) m2) (k : Keep3 md m2) (k4 : m2.1 4 = md.1 4) (hnz : ∀ i, i < a.nl → a.ld i = d → 0 < cutLen a i) (ps : PS a (d + 1) B2 Q2 nd2 ne2 p2 m2) : Dia a nl nT LS TS FP FS bc sg tr tu ff pl lw md d z := Or.inr (Or.inr ⟨f2, p2, l2, m2, B2, Q2, nd2, ne2, e, em, k, k4, hnz, ps⟩)
theorem x_dia (ok : Ok a) (rc : RC a nl nT LS TS FP FS bc sg) (rm : RM a md) (ps : PS a d B Q nd ne pl md) (hd4 : 4 ≤ d) (hd : d ≤ 40) (z : Int) (hz0 : 0 ≤ z) (hz8 : z ≤ 8) : Dia a nl nT LS TS FP FS bc sg tr tu ff pl lw md d z := by
  have hn12 := ok.nl
  have hk3 := ok.kn d
  have hsum : sumL a.lm (ltD a (d + 1)) a.nl ≤ 60 := by
    have := sumL_b (f := a.lm) (p := ltD a (d + 1)) (m := 5) a.nl (fun i hi => (ok.lm i hi).2)
    omega
  rw [ltD_s] at hsum
  have hct := ps.ct
  have hbl := ps.bl
  have k3a : Keep3 md (sI md 3 0) := ⟨fun k hk => by simp (disch := omega) only [jI_lit, jL_lit, jI_n, jI_add, jI_sub, jI_mul, jI_neg, jL_add, jL_sub, jL_mul, jL_neg, jI_lt, jI_le, jI_eq, jL_lt, jL_le, jL_eq, jI_c, jI_64, jL_32, jI_div, jL_div, jx, bnd, if_true, if_false, if_pos, if_neg, Int.toNat_natCast, Int.reduceToNat, Int.add_zero, Int.zero_add, Int.reduceAdd, Int.reduceSub, Int.reduceMul, Int.reduceNeg, Int.reduceLT, Int.reduceLE, jI_rem, sI_1, sI_2, sA_1, sA_2, sA_3, sL_1, sL_2, sL_3, upd_a, updL_a, vaup_a, Nat.reduceEqDiff, Ab_sz, Ab_tx, Ab_ns, Ab_sn, Ab_sx, Ab_ru, Ab_nl, Ab_lsh, Ab_ld, Ab_lm, Ab_lg, Ab_pd, Ab_px, Ab_py, Ab_pz, Ab_kn, Ab_kl, Ab_km], fun _ _ => rfl, fun _ _ => rfl⟩
  have rm1 := rm.kept3 k3a
  have gp0 : GP Q.length [] pl (sI md 3 0) := ⟨ps.q0, rfl, fun p x h => by simp at h⟩
  have G := g_lines (tr := tr) (tu := tu) (ff := ff) (lw := lw) ok rc hd4 hd (F := Q.length) (by rw [hct]; exact hsum) fu 0 [] pl (sI md 3 0) rm1 (by omega) (by unfold fu; omega) rfl rfl (fun x h => by simp at h) gp0
  have nn0 : ¬ (40 : Int32) < jI d := by simp (disch := omega) only [jI_lit, jL_lit, jI_n, jI_add, jI_sub, jI_mul, jI_neg, jL_add, jL_sub, jL_mul, jL_neg, jI_lt, jI_le, jI_eq, jL_lt, jL_le, jL_eq, jI_c, jI_64, jL_32, jI_div, jL_div, jx, bnd, if_true, if_false, if_pos, if_neg, Int.toNat_natCast, Int.reduceToNat, Int.add_zero, Int.zero_add, Int.reduceAdd, Int.reduceSub, Int.reduceMul, Int.reduceNeg, Int.reduceLT, Int.reduceLE, jI_rem, sI_1, sI_2, sA_1, sA_2, sA_3, sL_1, sL_2, sL_3, upd_a, updL_a, vaup_a, Nat.reduceEqDiff, Ab_sz, Ab_tx, Ab_ns, Ab_sn, Ab_sx, Ab_ru, Ab_nl, Ab_lsh, Ab_ld, Ab_lm, Ab_lg, Ab_pd, Ab_px, Ab_py, Ab_pz, Ab_kn, Ab_kl, Ab_km]; omega
  rcases G with ⟨p2, i, hi, hdi, hzi, e⟩ | ⟨w, P, p2, m2, e, em, gp, kg, hPl, hPs, hPb, hnz⟩
  · have e' : l_Bc_gatherPieces_2 fu (jI d) (jI Q.length) 0 nl nT LS TS FP FS bc sg tr tu ff pl lw = some (0, bc, sg, tr, tu, ff, p2, lw) := e
    refine Dia.zero i ff p2 lw hi hdi hzi ?_
    unfold f_Bc_cutDiameter f_Bc_gatherPieces
    rw [ps.q0]
    simp only [bnd]
    rw [e']
    simp only [bnd, if_true]
  · have e' : l_Bc_gatherPieces_2 fu (jI d) (jI Q.length) 0 nl nT LS TS FP FS bc sg tr tu ff pl lw = some (1, bc, sg, tr, tu, ff, p2, lw) := e
    have em' : f_Md_findPieces md (jI d) = some ((), m2) := by
      unfold f_Md_findPieces
      simp only [bnd]
      have : l_Md_findPieces_7 fu (jI d) 0 (sI md 3 0) = some (w, m2) := em
      rw [this]; rfl
    have hkg3 := k3a.tr kg.k3
    have hm4 : m2.1 4 = md.1 4 := by rw [kg.2.1 4 (by omega)]; simp (disch := omega) only [jI_lit, jL_lit, jI_n, jI_add, jI_sub, jI_mul, jI_neg, jL_add, jL_sub, jL_mul, jL_neg, jI_lt, jI_le, jI_eq, jL_lt, jL_le, jL_eq, jI_c, jI_64, jL_32, jI_div, jL_div, jx, bnd, if_true, if_false, if_pos, if_neg, Int.toNat_natCast, Int.reduceToNat, Int.add_zero, Int.zero_add, Int.reduceAdd, Int.reduceSub, Int.reduceMul, Int.reduceNeg, Int.reduceLT, Int.reduceLE, jI_rem, sI_1, sI_2, sA_1, sA_2, sA_3, sL_1, sL_2, sL_3, upd_a, updL_a, vaup_a, Nat.reduceEqDiff, Ab_sz, Ab_tx, Ab_ns, Ab_sn, Ab_sx, Ab_ru, Ab_nl, Ab_lsh, Ab_ld, Ab_lm, Ab_lg, Ab_pd, Ab_px, Ab_py, Ab_pz, Ab_kn, Ab_kl, Ab_km]
    have rm2 := rm.kept3 hkg3
    have hF60 : Q.length + P.length ≤ 60 := by rw [hct, hPl]; exact hsum
    have hv4 : jI ((Q.length + P.length : Nat) : Int) - jI Q.length = jI P.length := by rw [jI_sub]; congr 1; omega
    have br2 : BR B p2 m2 := by
      refine ⟨by rw [kg.1.1 1 (by omega)]; exact ps.br.n, by rw [kg.2.1 5 (by omega)]; simp (disch := omega) only [jI_lit, jL_lit, jI_n, jI_add, jI_sub, jI_mul, jI_neg, jL_add, jL_sub, jL_mul, jL_neg, jI_lt, jI_le, jI_eq, jL_lt, jL_le, jL_eq, jI_c, jI_64, jL_32, jI_div, jL_div, jx, bnd, if_true, if_false, if_pos, if_neg, Int.toNat_natCast, Int.reduceToNat, Int.add_zero, Int.zero_add, Int.reduceAdd, Int.reduceSub, Int.reduceMul, Int.reduceNeg, Int.reduceLT, Int.reduceLE, jI_rem, sI_1, sI_2, sA_1, sA_2, sA_3, sL_1, sL_2, sL_3, upd_a, updL_a, vaup_a, Nat.reduceEqDiff, Ab_sz, Ab_tx, Ab_ns, Ab_sn, Ab_sx, Ab_ru, Ab_nl, Ab_lsh, Ab_ld, Ab_lm, Ab_lg, Ab_pd, Ab_px, Ab_py, Ab_pz, Ab_kn, Ab_kl, Ab_km]; exact ps.br.m, fun b x hx => ?_, fun b x hx m y hy => ?_, ps.br.lb⟩
      · rw [kg.1.2.1 3 (by omega) (by omega), kg.1.2.1 4 (by omega) (by omega), kg.1.2.1 5 (by omega) (by omega), kg.1.2.1 6 (by omega) (by omega), kg.2.2.1 16 (by omega), kg.2.2.1 17 (by omega), kg.2.2.2 7 (by omega), kg.2.2.2 8 (by omega)]
        exact ps.br.t b x hx
      · rw [kg.2.2.1 18 (by omega)]; exact ps.br.l b x hx m y hy
    by_cases c0 : P.length = 0
    · 
      refine Dia.good ff p2 lw m2 B Q nd ne ?_ (fun n => ?_) hkg3 hm4 (fun i h1 h2 => hnz i (by omega) h1 h2) ?_
      · unfold f_Bc_cutDiameter f_Bc_gatherPieces
        rw [ps.q0]
        simp only [bnd]
        rw [e']
        simp only [bnd, show ¬ (1 : Int32) = 0 by decide, if_false, gp.n, hv4]
        rw [if_pos (by rw [c0]; rfl)]
      · rw [l_Md_run_63, if_neg nn0, em']
        simp only [bnd]
        rw [gp.m, if_pos (by rw [c0]; decide), show jI (d : Int) + 1 = jI ((d + 1 : Nat) : Int) from jI_add _ 1]
      · have z1 : sumL a.lm (eqD a d) a.nl = 0 := by rw [← hPl]; exact c0
        have hP0 : P = [] := List.length_eq_zero_iff.mp c0
        have z2 : sumL (lmc a) (eqD a d) a.nl = 0 := by rw [← hPs, hP0]; rfl
        refine ⟨by rw [gp.n, c0]; rfl, fun q x hx => ?_, br2, ps.bl, ps.ls, ps.zb, by rw [ltD_s, z1]; exact hct, by rw [ltD_s, z2]; exact ps.sm, by rw [kg.1.1 2 (by omega)]; exact ps.c2, by rw [kg.1.1 3 (by omega)]; exact ps.c3, by rw [kg.2.1 6 (by omega)]; simp (disch := omega) only [jI_lit, jL_lit, jI_n, jI_add, jI_sub, jI_mul, jI_neg, jL_add, jL_sub, jL_mul, jL_neg, jI_lt, jI_le, jI_eq, jL_lt, jL_le, jL_eq, jI_c, jI_64, jL_32, jI_div, jL_div, jx, bnd, if_true, if_false, if_pos, if_neg, Int.toNat_natCast, Int.reduceToNat, Int.add_zero, Int.zero_add, Int.reduceAdd, Int.reduceSub, Int.reduceMul, Int.reduceNeg, Int.reduceLT, Int.reduceLE, jI_rem, sI_1, sI_2, sA_1, sA_2, sA_3, sL_1, sL_2, sL_3, upd_a, updL_a, vaup_a, Nat.reduceEqDiff, Ab_sz, Ab_tx, Ab_ns, Ab_sn, Ab_sx, Ab_ru, Ab_nl, Ab_lsh, Ab_ld, Ab_lm, Ab_lg, Ab_pd, Ab_px, Ab_py, Ab_pz, Ab_kn, Ab_kl, Ab_km]; exact ps.m6, by rw [kg.2.1 7 (by omega)]; simp (disch := omega) only [jI_lit, jL_lit, jI_n, jI_add, jI_sub, jI_mul, jI_neg, jL_add, jL_sub, jL_mul, jL_neg, jI_lt, jI_le, jI_eq, jL_lt, jL_le, jL_eq, jI_c, jI_64, jL_32, jI_div, jL_div, jx, bnd, if_true, if_false, if_pos, if_neg, Int.toNat_natCast, Int.reduceToNat, Int.add_zero, Int.zero_add, Int.reduceAdd, Int.reduceSub, Int.reduceMul, Int.reduceNeg, Int.reduceLT, Int.reduceLE, jI_rem, sI_1, sI_2, sA_1, sA_2, sA_3, sL_1, sL_2, sL_3, upd_a, updL_a, vaup_a, Nat.reduceEqDiff, Ab_sz, Ab_tx, Ab_ns, Ab_sn, Ab_sx, Ab_ru, Ab_nl, Ab_lsh, Ab_ld, Ab_lm, Ab_lg, Ab_pd, Ab_px, Ab_py, Ab_pz, Ab_kn, Ab_kl, Ab_km]; exact ps.m7⟩
        have hq := (List.getElem?_eq_some_iff.mp hx).1
        rw [kg.1.2.2 0 q hq, kg.1.2.2 1 q hq, kg.1.2.2 2 q hq]
        exact ps.qt q x hx
    · have hc0 : 0 < P.length := by omega
      obtain ⟨v, m3, l1, l2, l3, l4, l5⟩ := m_left ok (show d < 41 by omega) (jL z) fu 0 m2 rm2 (by omega) (by unfold fu; omega) (fun j hj => by omega)
      have k3b : Keep3 m2 m3 := ⟨fun k _ => by rw [l2], fun k hk => l4 k (by omega), fun k _ => by rw [l3]⟩
      have hm3 : m3.1 3 = jI P.length := by rw [l2]; exact gp.m
      have hm6 : m3.1 6 = jI nd := by rw [l2, kg.2.1 6 (by omega)]; simp (disch := omega) only [jI_lit, jL_lit, jI_n, jI_add, jI_sub, jI_mul, jI_neg, jL_add, jL_sub, jL_mul, jL_neg, jI_lt, jI_le, jI_eq, jL_lt, jL_le, jL_eq, jI_c, jI_64, jL_32, jI_div, jL_div, jx, bnd, if_true, if_false, if_pos, if_neg, Int.toNat_natCast, Int.reduceToNat, Int.add_zero, Int.zero_add, Int.reduceAdd, Int.reduceSub, Int.reduceMul, Int.reduceNeg, Int.reduceLT, Int.reduceLE, jI_rem, sI_1, sI_2, sA_1, sA_2, sA_3, sL_1, sL_2, sL_3, upd_a, updL_a, vaup_a, Nat.reduceEqDiff, Ab_sz, Ab_tx, Ab_ns, Ab_sn, Ab_sx, Ab_ru, Ab_nl, Ab_lsh, Ab_ld, Ab_lm, Ab_lg, Ab_pd, Ab_px, Ab_py, Ab_pz, Ab_kn, Ab_kl, Ab_km]; exact ps.m6
      have hm7 : m3.1 7 = jI ne := by rw [l2, kg.2.1 7 (by omega)]; simp (disch := omega) only [jI_lit, jL_lit, jI_n, jI_add, jI_sub, jI_mul, jI_neg, jL_add, jL_sub, jL_mul, jL_neg, jI_lt, jI_le, jI_eq, jL_lt, jL_le, jL_eq, jI_c, jI_64, jL_32, jI_div, jL_div, jx, bnd, if_true, if_false, if_pos, if_neg, Int.toNat_natCast, Int.reduceToNat, Int.add_zero, Int.zero_add, Int.reduceAdd, Int.reduceSub, Int.reduceMul, Int.reduceNeg, Int.reduceLT, Int.reduceLE, jI_rem, sI_1, sI_2, sA_1, sA_2, sA_3, sL_1, sL_2, sL_3, upd_a, updL_a, vaup_a, Nat.reduceEqDiff, Ab_sz, Ab_tx, Ab_ns, Ab_sn, Ab_sx, Ab_ru, Ab_nl, Ab_lsh, Ab_ld, Ab_lm, Ab_lg, Ab_pd, Ab_px, Ab_py, Ab_pz, Ab_kn, Ab_kl, Ab_km]; exact ps.m7
      have hp2 : p2.1 2 = jI nd := by rw [kg.1.1 2 (by omega)]; exact ps.c2
      have hp3 : p2.1 3 = jI ne := by rw [kg.1.1 3 (by omega)]; exact ps.c3
      have hP8 : (0 : Int) < P.length ∧ (P.length : Int) ≤ 60 := by omega
      have stepM : ∀ (ex : Nat) (mx : MS), mx = sI (sI m3 6 (jI ((nd + 1 : Nat) : Int))) 7 (jI ((ne + ex : Nat) : Int)) → ((z < P.length ∧ ex = 0) ∨ ((P.length : Int) ≤ z ∧ ex = 1)) → ∀ n, l_Md_run_63 (n + 1) (jL z) (jI d) md = if z < P.length then (f_Md_cutInTurn mx (jI d)).bind fun q26 => (if q26.1 = 0 then some ((-1), q26.2) else l_Md_run_63 n (jL z) (jI ((d + 1 : Nat) : Int)) q26.2) else (f_Md_cutBest mx (jI d)).bind fun q28 => (if q28.1 = 0 then some ((-1), q28.2) else l_Md_run_63 n (jL z) (jI ((d + 1 : Nat) : Int)) q28.2) := by
        intro ex mx hmx hex n
        rw [l_Md_run_63, if_neg nn0, em']
        simp only [bnd]
        have l1' : l_Md_run_84 fu (jL z) (jI d) 0 m2 = some (v, m3) := l1
        rw [gp.m, if_neg (by simp (disch := omega) only [jI_lit, jL_lit, jI_n, jI_add, jI_sub, jI_mul, jI_neg, jL_add, jL_sub, jL_mul, jL_neg, jI_lt, jI_le, jI_eq, jL_lt, jL_le, jL_eq, jI_c, jI_64, jL_32, jI_div, jL_div, jx, bnd, if_true, if_false, if_pos, if_neg, Int.toNat_natCast, Int.reduceToNat, Int.add_zero, Int.zero_add, Int.reduceAdd, Int.reduceSub, Int.reduceMul, Int.reduceNeg, Int.reduceLT, Int.reduceLE, jI_rem, sI_1, sI_2, sA_1, sA_2, sA_3, sL_1, sL_2, sL_3, upd_a, updL_a, vaup_a, Nat.reduceEqDiff, Ab_sz, Ab_tx, Ab_ns, Ab_sn, Ab_sx, Ab_ru, Ab_nl, Ab_lsh, Ab_ld, Ab_lm, Ab_lg, Ab_pd, Ab_px, Ab_py, Ab_pz, Ab_kn, Ab_kl, Ab_km]; omega), l1']
        have e64 : (jI (P.length : Int)).toInt64 = jL P.length := jI_64 (by omega) (by omega)
        have e6 : jI (nd : Int) + 1 = jI ((nd + 1 : Nat) : Int) := jI_add _ 1
        have e8 : jI (d : Int) + 1 = jI ((d + 1 : Nat) : Int) := jI_add _ 1
        simp only [bnd, hm6, e6, sI_1, hm3, hm7, e64, Nat.reduceEqDiff, if_false, e8]
        rcases hex with ⟨h1, h2⟩ | ⟨h1, h2⟩
        · have n1 : jL z < jL P.length := by simp (disch := omega) only [jI_lit, jL_lit, jI_n, jI_add, jI_sub, jI_mul, jI_neg, jL_add, jL_sub, jL_mul, jL_neg, jI_lt, jI_le, jI_eq, jL_lt, jL_le, jL_eq, jI_c, jI_64, jL_32, jI_div, jL_div, jx, bnd, if_true, if_false, if_pos, if_neg, Int.toNat_natCast, Int.reduceToNat, Int.add_zero, Int.zero_add, Int.reduceAdd, Int.reduceSub, Int.reduceMul, Int.reduceNeg, Int.reduceLT, Int.reduceLE, jI_rem, sI_1, sI_2, sA_1, sA_2, sA_3, sL_1, sL_2, sL_3, upd_a, updL_a, vaup_a, Nat.reduceEqDiff, Ab_sz, Ab_tx, Ab_ns, Ab_sn, Ab_sx, Ab_ru, Ab_nl, Ab_lsh, Ab_ld, Ab_lm, Ab_lg, Ab_pd, Ab_px, Ab_py, Ab_pz, Ab_kn, Ab_kl, Ab_km]; omega
          have e7 : jI (ne : Int) + 0 = jI ((ne + ex : Nat) : Int) := by rw [show (0 : Int32) = jI 0 from rfl, jI_add, h2]; rfl
          simp only [n1, h1, if_true, bnd, e7, ← hmx]
        · have n1 : ¬ jL z < jL P.length := by simp (disch := omega) only [jI_lit, jL_lit, jI_n, jI_add, jI_sub, jI_mul, jI_neg, jL_add, jL_sub, jL_mul, jL_neg, jI_lt, jI_le, jI_eq, jL_lt, jL_le, jL_eq, jI_c, jI_64, jL_32, jI_div, jL_div, jx, bnd, if_true, if_false, if_pos, if_neg, Int.toNat_natCast, Int.reduceToNat, Int.add_zero, Int.zero_add, Int.reduceAdd, Int.reduceSub, Int.reduceMul, Int.reduceNeg, Int.reduceLT, Int.reduceLE, jI_rem, sI_1, sI_2, sA_1, sA_2, sA_3, sL_1, sL_2, sL_3, upd_a, updL_a, vaup_a, Nat.reduceEqDiff, Ab_sz, Ab_tx, Ab_ns, Ab_sn, Ab_sx, Ab_ru, Ab_nl, Ab_lsh, Ab_ld, Ab_lm, Ab_lg, Ab_pd, Ab_px, Ab_py, Ab_pz, Ab_kn, Ab_kl, Ab_km]; omega
          have n2 : ¬ z < (P.length : Int) := by omega
          have e7 : jI (ne : Int) + 1 = jI ((ne + ex : Nat) : Int) := by rw [h2]; exact jI_add _ 1
          simp only [n1, n2, if_false, bnd, e7, ← hmx]
      have k3c : ∀ x y, Keep3 m3 (sI (sI m3 6 x) 7 y) := fun x y => ⟨fun k hk => by simp (disch := omega) only [jI_lit, jL_lit, jI_n, jI_add, jI_sub, jI_mul, jI_neg, jL_add, jL_sub, jL_mul, jL_neg, jI_lt, jI_le, jI_eq, jL_lt, jL_le, jL_eq, jI_c, jI_64, jL_32, jI_div, jL_div, jx, bnd, if_true, if_false, if_pos, if_neg, Int.toNat_natCast, Int.reduceToNat, Int.add_zero, Int.zero_add, Int.reduceAdd, Int.reduceSub, Int.reduceMul, Int.reduceNeg, Int.reduceLT, Int.reduceLE, jI_rem, sI_1, sI_2, sA_1, sA_2, sA_3, sL_1, sL_2, sL_3, upd_a, updL_a, vaup_a, Nat.reduceEqDiff, Ab_sz, Ab_tx, Ab_ns, Ab_sn, Ab_sx, Ab_ru, Ab_nl, Ab_lsh, Ab_ld, Ab_lm, Ab_lg, Ab_pd, Ab_px, Ab_py, Ab_pz, Ab_kn, Ab_kl, Ab_km], fun _ _ => rfl, fun _ _ => rfl⟩
      have brx : ∀ x y u w, BR B (sI (sI p2 2 u) 3 w) (sI (sI m3 6 x) 7 y) := fun x y u w => by
        refine ⟨by simp (disch := omega) only [jI_lit, jL_lit, jI_n, jI_add, jI_sub, jI_mul, jI_neg, jL_add, jL_sub, jL_mul, jL_neg, jI_lt, jI_le, jI_eq, jL_lt, jL_le, jL_eq, jI_c, jI_64, jL_32, jI_div, jL_div, jx, bnd, if_true, if_false, if_pos, if_neg, Int.toNat_natCast, Int.reduceToNat, Int.add_zero, Int.zero_add, Int.reduceAdd, Int.reduceSub, Int.reduceMul, Int.reduceNeg, Int.reduceLT, Int.reduceLE, jI_rem, sI_1, sI_2, sA_1, sA_2, sA_3, sL_1, sL_2, sL_3, upd_a, updL_a, vaup_a, Nat.reduceEqDiff, Ab_sz, Ab_tx, Ab_ns, Ab_sn, Ab_sx, Ab_ru, Ab_nl, Ab_lsh, Ab_ld, Ab_lm, Ab_lg, Ab_pd, Ab_px, Ab_py, Ab_pz, Ab_kn, Ab_kl, Ab_km]; exact br2.n, by simp (disch := omega) only [jI_lit, jL_lit, jI_n, jI_add, jI_sub, jI_mul, jI_neg, jL_add, jL_sub, jL_mul, jL_neg, jI_lt, jI_le, jI_eq, jL_lt, jL_le, jL_eq, jI_c, jI_64, jL_32, jI_div, jL_div, jx, bnd, if_true, if_false, if_pos, if_neg, Int.toNat_natCast, Int.reduceToNat, Int.add_zero, Int.zero_add, Int.reduceAdd, Int.reduceSub, Int.reduceMul, Int.reduceNeg, Int.reduceLT, Int.reduceLE, jI_rem, sI_1, sI_2, sA_1, sA_2, sA_3, sL_1, sL_2, sL_3, upd_a, updL_a, vaup_a, Nat.reduceEqDiff, Ab_sz, Ab_tx, Ab_ns, Ab_sn, Ab_sx, Ab_ru, Ab_nl, Ab_lsh, Ab_ld, Ab_lm, Ab_lg, Ab_pd, Ab_px, Ab_py, Ab_pz, Ab_kn, Ab_kl, Ab_km]; rw [l2]; exact br2.m, fun b q hq => ?_, fun b q hq m t ht => ?_, br2.lb⟩
        · simp (disch := omega) only [jI_lit, jL_lit, jI_n, jI_add, jI_sub, jI_mul, jI_neg, jL_add, jL_sub, jL_mul, jL_neg, jI_lt, jI_le, jI_eq, jL_lt, jL_le, jL_eq, jI_c, jI_64, jL_32, jI_div, jL_div, jx, bnd, if_true, if_false, if_pos, if_neg, Int.toNat_natCast, Int.reduceToNat, Int.add_zero, Int.zero_add, Int.reduceAdd, Int.reduceSub, Int.reduceMul, Int.reduceNeg, Int.reduceLT, Int.reduceLE, jI_rem, sI_1, sI_2, sA_1, sA_2, sA_3, sL_1, sL_2, sL_3, upd_a, updL_a, vaup_a, Nat.reduceEqDiff, Ab_sz, Ab_tx, Ab_ns, Ab_sn, Ab_sx, Ab_ru, Ab_nl, Ab_lsh, Ab_ld, Ab_lm, Ab_lg, Ab_pd, Ab_px, Ab_py, Ab_pz, Ab_kn, Ab_kl, Ab_km]; rw [l3, l4 16 (by omega), l4 17 (by omega)]; exact br2.t b q hq
        · simp (disch := omega) only [jI_lit, jL_lit, jI_n, jI_add, jI_sub, jI_mul, jI_neg, jL_add, jL_sub, jL_mul, jL_neg, jI_lt, jI_le, jI_eq, jL_lt, jL_le, jL_eq, jI_c, jI_64, jL_32, jI_div, jL_div, jx, bnd, if_true, if_false, if_pos, if_neg, Int.toNat_natCast, Int.reduceToNat, Int.add_zero, Int.zero_add, Int.reduceAdd, Int.reduceSub, Int.reduceMul, Int.reduceNeg, Int.reduceLT, Int.reduceLE, jI_rem, sI_1, sI_2, sA_1, sA_2, sA_3, sL_1, sL_2, sL_3, upd_a, updL_a, vaup_a, Nat.reduceEqDiff, Ab_sz, Ab_tx, Ab_ns, Ab_sn, Ab_sx, Ab_ru, Ab_nl, Ab_lsh, Ab_ld, Ab_lm, Ab_lg, Ab_pd, Ab_px, Ab_py, Ab_pz, Ab_kn, Ab_kl, Ab_km]; rw [l4 18 (by omega)]; exact br2.l b q hq m t ht
      have gpx : ∀ x y u w, GP Q.length P (sI (sI p2 2 u) 3 w) (sI (sI m3 6 x) 7 y) := fun x y u w => by
        refine ⟨by simp (disch := omega) only [jI_lit, jL_lit, jI_n, jI_add, jI_sub, jI_mul, jI_neg, jL_add, jL_sub, jL_mul, jL_neg, jI_lt, jI_le, jI_eq, jL_lt, jL_le, jL_eq, jI_c, jI_64, jL_32, jI_div, jL_div, jx, bnd, if_true, if_false, if_pos, if_neg, Int.toNat_natCast, Int.reduceToNat, Int.add_zero, Int.zero_add, Int.reduceAdd, Int.reduceSub, Int.reduceMul, Int.reduceNeg, Int.reduceLT, Int.reduceLE, jI_rem, sI_1, sI_2, sA_1, sA_2, sA_3, sL_1, sL_2, sL_3, upd_a, updL_a, vaup_a, Nat.reduceEqDiff, Ab_sz, Ab_tx, Ab_ns, Ab_sn, Ab_sx, Ab_ru, Ab_nl, Ab_lsh, Ab_ld, Ab_lm, Ab_lg, Ab_pd, Ab_px, Ab_py, Ab_pz, Ab_kn, Ab_kl, Ab_km]; exact gp.n, by simp (disch := omega) only [jI_lit, jL_lit, jI_n, jI_add, jI_sub, jI_mul, jI_neg, jL_add, jL_sub, jL_mul, jL_neg, jI_lt, jI_le, jI_eq, jL_lt, jL_le, jL_eq, jI_c, jI_64, jL_32, jI_div, jL_div, jx, bnd, if_true, if_false, if_pos, if_neg, Int.toNat_natCast, Int.reduceToNat, Int.add_zero, Int.zero_add, Int.reduceAdd, Int.reduceSub, Int.reduceMul, Int.reduceNeg, Int.reduceLT, Int.reduceLE, jI_rem, sI_1, sI_2, sA_1, sA_2, sA_3, sL_1, sL_2, sL_3, upd_a, updL_a, vaup_a, Nat.reduceEqDiff, Ab_sz, Ab_tx, Ab_ns, Ab_sn, Ab_sx, Ab_ru, Ab_nl, Ab_lsh, Ab_ld, Ab_lm, Ab_lg, Ab_pd, Ab_px, Ab_py, Ab_pz, Ab_kn, Ab_kl, Ab_km]; exact hm3, fun p q hq => ?_⟩
        simp (disch := omega) only [jI_lit, jL_lit, jI_n, jI_add, jI_sub, jI_mul, jI_neg, jL_add, jL_sub, jL_mul, jL_neg, jI_lt, jI_le, jI_eq, jL_lt, jL_le, jL_eq, jI_c, jI_64, jL_32, jI_div, jL_div, jx, bnd, if_true, if_false, if_pos, if_neg, Int.toNat_natCast, Int.reduceToNat, Int.add_zero, Int.zero_add, Int.reduceAdd, Int.reduceSub, Int.reduceMul, Int.reduceNeg, Int.reduceLT, Int.reduceLE, jI_rem, sI_1, sI_2, sA_1, sA_2, sA_3, sL_1, sL_2, sL_3, upd_a, updL_a, vaup_a, Nat.reduceEqDiff, Ab_sz, Ab_tx, Ab_ns, Ab_sn, Ab_sx, Ab_ru, Ab_nl, Ab_lsh, Ab_ld, Ab_lm, Ab_lg, Ab_pd, Ab_px, Ab_py, Ab_pz, Ab_kn, Ab_kl, Ab_km]; rw [l3, l4 10 (by omega)]; exact gp.t p q hq
      have hgb : ∀ q, q < P.length → gP P q ≤ 120000 := fun q hq => (psum_b hPb hq).1
      have hkn7 : ∀ x y, (sI (sI m3 6 x) 7 y).2.1 7 d = jI (a.kn d) := fun x y => by
        show m3.2.1 7 d = _; rw [l4 7 (by omega)]; exact rm2.kn d (by omega)
      have hkl5 : ∀ x y k, k < a.kn d → (sI (sI m3 6 x) 7 y).2.2 5 (3 * d + k) = jL (a.kl d k) := fun x y k hk => by
        show m3.2.2 5 _ = _; rw [l3]; exact rm2.kl d (by omega) k hk
      have hk9 : ∀ x y k, k < a.kn d → (sI (sI m3 6 x) 7 y).2.1 9 k = jI (a.km d k) := fun x y k hk => l5 k hk
      have hkeep : ∀ {x y pa ma : MS} {X Y U W : Int32} {B2 : List Bar} {asg : Nat → Option Nat}, CS d P.length Q.length (lnP P) (gP P) B pa (sI (sI m3 6 X) 7 Y) B2 asg x y → Keep3 md y ∧ y.1 4 = md.1 4 := fun {x y pa ma X Y U W B2 asg} cs => by
        have kk : Keep3 (sI (sI m3 6 X) 7 Y) y := ⟨fun k hk => cs.km.1 k (by omega), fun k hk => cs.km.2.1 k (by omega), fun k hk => cs.km.2.2 k (by omega)⟩
        refine ⟨((hkg3.tr k3b).tr (k3c X Y)).tr kk, ?_⟩
        rw [cs.km.1 4 (by omega)]
        show (if (4 : Nat) = 7 then Y else if (4 : Nat) = 6 then X else m3.1 4) = _
        rw [if_neg (by omega), if_neg (by omega), l2]; exact hm4
      have hdi : ix (jI (d : Int) - 4) 37 = true := by rw [show (4 : Int32) = jI 4 from rfl, jI_sub]; exact jx (by omega) (by omega) (by omega)
      have hdc : (jI (d : Int) - 4).toNatClampNeg = d - 4 := by rw [show (4 : Int32) = jI 4 from rfl, jI_sub, jI_c (by omega) (by omega)]; omega
      have hcls : ∀ (R : Option (Int32 × MS × MS × MS × MS × MS × MS × MS)), (if FP (d - 4) = true then (if jI P.length ≤ jI z then (f_Lw_cut (sI (sI p2 2 (jI ((nd + 1 : Nat) : Int))) 3 (jI ((ne + 1 : Nat) : Int))) lw (FS (d - 4)) (jI Q.length) (jI d)).bind fun q11 => if q11.1 = 0 ∨ q11.1 = 1 then some (q11.1, bc, sg, tr, tu, ff, q11.2.1, q11.2.2) else none else (f_Ff_cut ff (sI p2 2 (jI ((nd + 1 : Nat) : Int))) (FS (d - 4)) (jI Q.length) (jI d)).bind fun q13 => if q13.1 = 0 ∨ q13.1 = 1 then some (q13.1, bc, sg, tr, tu, q13.2.1, q13.2.2, lw) else none) else some (0, bc, sg, tr, tu, ff, p2, lw)) = R → f_Bc_cutDiameter nl nT LS TS FP FS bc sg tr tu ff pl lw (jI d) (jI z) = R := by
        intro R hR
        rw [← hR]
        unfold f_Bc_cutDiameter f_Bc_gatherPieces
        rw [ps.q0]
        simp only [bnd]
        rw [e']
        have nz : ¬ jI (P.length : Int) = 0 := by rw [show (0 : Int32) = jI 0 from rfl, jI_eq (by omega) (by omega) (by omega) (by omega)]; omega
        have e6 : jI (nd : Int) + 1 = jI ((nd + 1 : Nat) : Int) := jI_add _ 1
        have e7 : jI (ne : Int) + 1 = jI ((ne + 1 : Nat) : Int) := jI_add _ 1
        simp only [bnd, show ¬ (1 : Int32) = 0 by decide, if_false, gp.n, hv4, nz, hdi, hdc, if_true, hp2, e6, sI_1, Nat.reduceEqDiff, hp3, e7]
      by_cases cz : (P.length : Int) ≤ z
      · 
        have hst := stepM 1 _ rfl (Or.inr ⟨cz, rfl⟩)
        have n2 : ¬ z < (P.length : Int) := by omega
        have n3 : jI (P.length : Int) ≤ jI z := by simp (disch := omega) only [jI_lit, jL_lit, jI_n, jI_add, jI_sub, jI_mul, jI_neg, jL_add, jL_sub, jL_mul, jL_neg, jI_lt, jI_le, jI_eq, jL_lt, jL_le, jL_eq, jI_c, jI_64, jL_32, jI_div, jL_div, jx, bnd, if_true, if_false, if_pos, if_neg, Int.toNat_natCast, Int.reduceToNat, Int.add_zero, Int.zero_add, Int.reduceAdd, Int.reduceSub, Int.reduceMul, Int.reduceNeg, Int.reduceLT, Int.reduceLE, jI_rem, sI_1, sI_2, sA_1, sA_2, sA_3, sL_1, sL_2, sL_3, upd_a, updL_a, vaup_a, Nat.reduceEqDiff, Ab_sz, Ab_tx, Ab_ns, Ab_sn, Ab_sx, Ab_ru, Ab_nl, Ab_lsh, Ab_ld, Ab_lm, Ab_lg, Ab_pd, Ab_px, Ab_py, Ab_pz, Ab_kn, Ab_kl, Ab_km]; omega
        simp only [n2, if_false] at hst
        by_cases hFP : FP (d - 4) = true
        · have rf := rc.fs (d - 4) (by omega) hFP
          rw [show d - 4 + 4 = d from by omega] at rf
          obtain ⟨r, pa, la, ma, B2, asg2, q1, q2, q3, q4⟩ := lw_cut (lw := lw) (sf := FS (d - 4)) (kn := a.kn d) (sz := a.kl d) (km := a.km d) hF60 (by omega) (by omega) hbl (by omega) hk3 (fun k hk => ok.kl d k hk) (fun k hk => ok.km d k hk) hgb rf.kn rf.kl rf.km (hkn7 _ _) (hkl5 _ _) (hk9 _ _) (cs_new (gpx (jI ((nd + 1 : Nat) : Int)) (jI ((ne + 1 : Nat) : Int)) (jI ((nd + 1 : Nat) : Int)) (jI ((ne + 1 : Nat) : Int))) (brx _ _ _ _))
          obtain ⟨kk, k4⟩ := hkeep (ma := ma) (U := 0) (W := 0) q3
          rcases q4 with rfl | ⟨rfl, h1, h2, h3⟩
          · refine Dia.bad ff pa la ma (hcls _ ?_) (fun n => ?_) kk k4
            · rw [if_pos hFP, if_pos n3, q1]; rfl
            · rw [hst n, q2]; rfl
          · refine Dia.good ff pa la ma B2 _ (nd + 1) (ne + 1) (hcls _ ?_) (fun n => ?_) kk k4 (fun i h1 h2 => hnz i (by omega) h1 h2) (ps_end (pl0 := sI (sI p2 2 (jI ((nd + 1 : Nat) : Int))) 3 (jI ((ne + 1 : Nat) : Int))) (md0 := sI (sI m3 6 (jI ((nd + 1 : Nat) : Int))) 7 (jI ((ne + 1 : Nat) : Int))) ok hd ps rfl (by show p2.2.1 2 = _; exact kg.1.2.1 2 (by omega) (by omega)) (fun k q hq => kg.1.2.2 k q hq) hPl (by rw [psum_g]; exact hPs) (fun p hp => (psum_b hPb hp).2) rfl rfl rfl rfl q3 h1 h2)
            · rw [if_pos hFP, if_pos n3, q1]; rfl
            · rw [hst n, q2]; rfl
        · have hk0 : a.kn d = 0 := by
            have := rc.fn (d - 4) (by omega) (Bool.eq_false_iff.mpr hFP)
            rw [show d - 4 + 4 = d from by omega] at this
            exact this
          obtain ⟨r, pa, la, ma, B2, asg2, q1, q2, q3, q4⟩ := lw_cut (lw := lw) (sf := sf0) (kn := a.kn d) (sz := a.kl d) (km := a.km d) hF60 (by omega) (by omega) hbl (by omega) hk3 (fun k hk => ok.kl d k hk) (fun k hk => ok.km d k hk) hgb (by rw [hk0]; rfl) (fun k hk => by omega) (fun k hk => by omega) (hkn7 _ _) (hkl5 _ _) (hk9 _ _) (cs_new (gpx (jI ((nd + 1 : Nat) : Int)) (jI ((ne + 1 : Nat) : Int)) (jI ((nd + 1 : Nat) : Int)) (jI ((ne + 1 : Nat) : Int))) (brx _ _ _ _))
          obtain ⟨kk, k4⟩ := hkeep (ma := ma) (U := 0) (W := 0) q3
          have hr : r = 0 := by
            rcases q4 with h | ⟨-, -, -, h⟩
            · exact h
            · omega
          subst hr
          refine Dia.bad ff p2 lw ma (hcls _ ?_) (fun n => ?_) kk k4
          · rw [if_neg hFP]
          · rw [hst n, q2]; rfl
      · 
        have hst := stepM 0 _ rfl (Or.inl ⟨by omega, rfl⟩)
        have n2 : z < (P.length : Int) := by omega
        have n3 : ¬ jI (P.length : Int) ≤ jI z := by simp (disch := omega) only [jI_lit, jL_lit, jI_n, jI_add, jI_sub, jI_mul, jI_neg, jL_add, jL_sub, jL_mul, jL_neg, jI_lt, jI_le, jI_eq, jL_lt, jL_le, jL_eq, jI_c, jI_64, jL_32, jI_div, jL_div, jx, bnd, if_true, if_false, if_pos, if_neg, Int.toNat_natCast, Int.reduceToNat, Int.add_zero, Int.zero_add, Int.reduceAdd, Int.reduceSub, Int.reduceMul, Int.reduceNeg, Int.reduceLT, Int.reduceLE, jI_rem, sI_1, sI_2, sA_1, sA_2, sA_3, sL_1, sL_2, sL_3, upd_a, updL_a, vaup_a, Nat.reduceEqDiff, Ab_sz, Ab_tx, Ab_ns, Ab_sn, Ab_sx, Ab_ru, Ab_nl, Ab_lsh, Ab_ld, Ab_lm, Ab_lg, Ab_pd, Ab_px, Ab_py, Ab_pz, Ab_kn, Ab_kl, Ab_km]; omega
        simp only [n2, if_true] at hst
        have hnoc : sI (sI p2 2 (jI ((nd + 1 : Nat) : Int))) 3 (p2.1 3) = sI p2 2 (jI ((nd + 1 : Nat) : Int)) := by
          have : va_up (va_up p2.1 2 (jI ((nd + 1 : Nat) : Int))) 3 (p2.1 3) = va_up p2.1 2 (jI ((nd + 1 : Nat) : Int)) := by
            funext j
            rw [vaup_a]
            by_cases ej : j = 3
            · subst ej; rw [if_pos rfl, vaup_a, if_neg (by omega)]
            · rw [if_neg ej]
          show (va_up (va_up p2.1 2 _) 3 _, p2.2) = (va_up p2.1 2 _, p2.2)
          rw [this]
        have csn := cs_new (d := d) (gpx (jI ((nd + 1 : Nat) : Int)) (jI ((ne + 0 : Nat) : Int)) (jI ((nd + 1 : Nat) : Int)) (p2.1 3)) (brx _ _ _ _)
        rw [hnoc] at csn
        by_cases hFP : FP (d - 4) = true
        · have rf := rc.fs (d - 4) (by omega) hFP
          rw [show d - 4 + 4 = d from by omega] at rf
          obtain ⟨r, fa, pa, ma, B2, asg2, q1, q2, q3, q4⟩ := ff_cutL (sf := FS (d - 4)) (kn := a.kn d) (sz := a.kl d) hk3 (show d < 41 by omega) (fun k hk => ok.kl d k hk) rf.kn rf.kl (hkn7 _ _) (hkl5 _ _) hF60 hbl hgb fu 0 (a.km d) B (fun _ => none) (sA ff 0 (va_cpy ((FS (d - 4)).2.1 1) (ff.2.1 0) (0 : Int32).toNatClampNeg (0 : Int32).toNatClampNeg (3 : Int32).toNatClampNeg)) _ _ (by omega) (by unfold fu; omega) (fun k hk => ok.km d k hk) (fun k hk => by rw [sA_2, if_pos rfl, cpy3 _ _ k (by omega)]; exact rf.km k hk) (hk9 _ _) csn (fun b x hb hx => by have := (List.getElem?_eq_some_iff.mp hx).1; omega) (by omega) (fun h => by omega) (fun q hq => by omega) (fun _ _ => rfl)
          obtain ⟨kk, k4⟩ := hkeep (ma := ma) (U := 0) (W := 0) q3
          have q1' : f_Ff_cut ff (sI p2 2 (jI ((nd + 1 : Nat) : Int))) (FS (d - 4)) (jI Q.length) (jI d) = some (jI r, fa, pa) := by
            unfold f_Ff_cut
            simp only [bnd]
            rw [csn.br.n]
            exact q1
          have q2' : f_Md_cutInTurn (sI (sI m3 6 (jI ((nd + 1 : Nat) : Int))) 7 (jI ((ne + 0 : Nat) : Int))) (jI d) = some (jI r, ma) := by
            unfold f_Md_cutInTurn
            simp only [bnd]
            rw [csn.br.m]
            exact q2
          rcases q4 with rfl | ⟨rfl, h1, h2, h3⟩
          · refine Dia.bad fa pa lw ma (hcls _ ?_) (fun n => ?_) kk k4
            · rw [if_pos hFP, if_neg n3, q1']; rfl
            · rw [hst n, q2']; rfl
          · refine Dia.good fa pa lw ma B2 _ (nd + 1) (ne + 0) (hcls _ ?_) (fun n => ?_) kk k4 (fun i h1 h2 => hnz i (by omega) h1 h2) (ps_end (pl0 := sI p2 2 (jI ((nd + 1 : Nat) : Int))) (md0 := sI (sI m3 6 (jI ((nd + 1 : Nat) : Int))) 7 (jI ((ne + 0 : Nat) : Int))) ok hd ps rfl (by show p2.2.1 2 = _; exact kg.1.2.1 2 (by omega) (by omega)) (fun k q hq => kg.1.2.2 k q hq) hPl (by rw [psum_g]; exact hPs) (fun p hp => (psum_b hPb hp).2) rfl hp3 rfl rfl q3 h1 h2)
            · rw [if_pos hFP, if_neg n3, q1']; rfl
            · rw [hst n, q2']; rfl
        · have hk0 : a.kn d = 0 := by
            have := rc.fn (d - 4) (by omega) (Bool.eq_false_iff.mpr hFP)
            rw [show d - 4 + 4 = d from by omega] at this
            exact this
          obtain ⟨kk, k4⟩ := hkeep (ma := md) (U := 0) (W := 0) csn
          refine Dia.bad ff p2 lw _ (hcls _ ?_) (fun n => ?_) kk k4
          · rw [if_neg hFP]
          · rw [hst n, m_none (show d < 41 by omega) hc0 csn.mn (by rw [hkn7, hk0]; rfl) csn.br.m (by omega) (by omega)]
            rfl
end RN
