abbrev Bar : Type := Nat × Nat × Int × List Nat
def BR (B : List Bar) (pl md : MS) : Prop := (pl.1 1 = jI B.length) ∧ (md.1 5 = jI B.length) ∧ (∀ (b : Nat) (x : Bar), B[b]? = some x → pl.2.1 3 b = jI x.1 ∧ pl.2.1 4 b = jI x.2.1 ∧ pl.2.1 5 b = jI x.2.2.1 ∧ pl.2.1 6 b = jI x.2.2.2.length ∧ md.2.1 16 b = jI x.1 ∧ md.2.2 7 b = jL x.2.1 ∧ md.2.2 8 b = jL x.2.2.1 ∧ md.2.1 17 b = jI x.2.2.2.length) ∧ (∀ (b : Nat) (x : Bar), B[b]? = some x → ∀ (m y : Nat), x.2.2.2[m]? = some y → md.2.1 18 (60 * b + m) = jI y) ∧ (∀ (b : Nat) (x : Bar), B[b]? = some x → x.2.2.2.length ≤ 60)
theorem BR.n {B : List Bar} {pl md : MS} (h9 : BR B pl md) : pl.1 1 = jI B.length := h9.1
theorem BR.m {B : List Bar} {pl md : MS} (h9 : BR B pl md) : md.1 5 = jI B.length := h9.2.1
theorem BR.t {B : List Bar} {pl md : MS} (h9 : BR B pl md) : ∀ (b : Nat) (x : Bar), B[b]? = some x → pl.2.1 3 b = jI x.1 ∧ pl.2.1 4 b = jI x.2.1 ∧ pl.2.1 5 b = jI x.2.2.1 ∧ pl.2.1 6 b = jI x.2.2.2.length ∧ md.2.1 16 b = jI x.1 ∧ md.2.2 7 b = jL x.2.1 ∧ md.2.2 8 b = jL x.2.2.1 ∧ md.2.1 17 b = jI x.2.2.2.length := h9.2.2.1
theorem BR.l {B : List Bar} {pl md : MS} (h9 : BR B pl md) : ∀ (b : Nat) (x : Bar), B[b]? = some x → ∀ (m y : Nat), x.2.2.2[m]? = some y → md.2.1 18 (60 * b + m) = jI y := h9.2.2.2.1
theorem BR.lb {B : List Bar} {pl md : MS} (h9 : BR B pl md) : ∀ (b : Nat) (x : Bar), B[b]? = some x → x.2.2.2.length ≤ 60 := h9.2.2.2.2
theorem BR.mk {B : List Bar} {pl md : MS} (u_n : pl.1 1 = jI B.length) (u_m : md.1 5 = jI B.length) (u_t : ∀ (b : Nat) (x : Bar), B[b]? = some x → pl.2.1 3 b = jI x.1 ∧ pl.2.1 4 b = jI x.2.1 ∧ pl.2.1 5 b = jI x.2.2.1 ∧ pl.2.1 6 b = jI x.2.2.2.length ∧ md.2.1 16 b = jI x.1 ∧ md.2.2 7 b = jL x.2.1 ∧ md.2.2 8 b = jL x.2.2.1 ∧ md.2.1 17 b = jI x.2.2.2.length) (u_l : ∀ (b : Nat) (x : Bar), B[b]? = some x → ∀ (m y : Nat), x.2.2.2[m]? = some y → md.2.1 18 (60 * b + m) = jI y) (u_lb : ∀ (b : Nat) (x : Bar), B[b]? = some x → x.2.2.2.length ≤ 60) : BR B pl md := ⟨u_n, u_m, u_t, u_l, u_lb⟩
def CS (d c F : Nat) (ln g : Nat → Nat) (B0 : List Bar) (pl0 md0 : MS) (B : List Bar) (asg : Nat → Option Nat) (pl md : MS) : Prop := (pl.1 0 = jI (F + c : Nat)) ∧ (md.1 3 = jI c) ∧ (∀ p, p < c → pl.2.1 0 (F + p) = jI (ln p) ∧ pl.2.1 1 (F + p) = jI (g p) ∧ md.2.1 10 p = jI (ln p) ∧ md.2.2 6 p = jL (g p)) ∧ (BR B pl md) ∧ (∀ p, p < c → ∀ b, asg p = some b → pl.2.1 2 (F + p) = jI b ∧ B0.length ≤ b ∧ b < B.length) ∧ (∀ (b : Nat) (x : Bar), B0.length ≤ b → B[b]? = some x → x.2.2.2 = ((List.range c).filter (fun p => asg p = some b)).map ln) ∧ (∀ b, b < B0.length → B[b]? = B0[b]?) ∧ (B0.length ≤ B.length) ∧ (∀ (b : Nat) (x : Bar), B0.length ≤ b → B[b]? = some x → x.1 = d) ∧ (∀ (b : Nat) (x : Bar), B0.length ≤ b → B[b]? = some x → x.2.1 ≤ 30000) ∧ ((∀ k, k ≠ 1 → pl.1 k = pl0.1 k) ∧ pl.2.1 0 = pl0.2.1 0 ∧ pl.2.1 1 = pl0.2.1 1 ∧ (∀ q, q < F → pl.2.1 2 q = pl0.2.1 2 q)) ∧ ((∀ k, k ≠ 5 → md.1 k = md0.1 k) ∧ (∀ k, k < 9 ∨ k = 10 → md.2.1 k = md0.2.1 k) ∧ (∀ k, k < 7 → md.2.2 k = md0.2.2 k))
theorem CS.pn {d c F : Nat} {ln g : Nat → Nat} {B0 : List Bar} {pl0 md0 : MS} {B : List Bar} {asg : Nat → Option Nat} {pl md : MS} (h9 : CS d c F ln g B0 pl0 md0 B asg pl md) : pl.1 0 = jI (F + c : Nat) := h9.1
theorem CS.mn {d c F : Nat} {ln g : Nat → Nat} {B0 : List Bar} {pl0 md0 : MS} {B : List Bar} {asg : Nat → Option Nat} {pl md : MS} (h9 : CS d c F ln g B0 pl0 md0 B asg pl md) : md.1 3 = jI c := h9.2.1
theorem CS.pp {d c F : Nat} {ln g : Nat → Nat} {B0 : List Bar} {pl0 md0 : MS} {B : List Bar} {asg : Nat → Option Nat} {pl md : MS} (h9 : CS d c F ln g B0 pl0 md0 B asg pl md) : ∀ p, p < c → pl.2.1 0 (F + p) = jI (ln p) ∧ pl.2.1 1 (F + p) = jI (g p) ∧ md.2.1 10 p = jI (ln p) ∧ md.2.2 6 p = jL (g p) := h9.2.2.1
theorem CS.br {d c F : Nat} {ln g : Nat → Nat} {B0 : List Bar} {pl0 md0 : MS} {B : List Bar} {asg : Nat → Option Nat} {pl md : MS} (h9 : CS d c F ln g B0 pl0 md0 B asg pl md) : BR B pl md := h9.2.2.2.1
theorem CS.ag {d c F : Nat} {ln g : Nat → Nat} {B0 : List Bar} {pl0 md0 : MS} {B : List Bar} {asg : Nat → Option Nat} {pl md : MS} (h9 : CS d c F ln g B0 pl0 md0 B asg pl md) : ∀ p, p < c → ∀ b, asg p = some b → pl.2.1 2 (F + p) = jI b ∧ B0.length ≤ b ∧ b < B.length := h9.2.2.2.2.1
theorem CS.ls {d c F : Nat} {ln g : Nat → Nat} {B0 : List Bar} {pl0 md0 : MS} {B : List Bar} {asg : Nat → Option Nat} {pl md : MS} (h9 : CS d c F ln g B0 pl0 md0 B asg pl md) : ∀ (b : Nat) (x : Bar), B0.length ≤ b → B[b]? = some x → x.2.2.2 = ((List.range c).filter (fun p => asg p = some b)).map ln := h9.2.2.2.2.2.1
theorem CS.b0 {d c F : Nat} {ln g : Nat → Nat} {B0 : List Bar} {pl0 md0 : MS} {B : List Bar} {asg : Nat → Option Nat} {pl md : MS} (h9 : CS d c F ln g B0 pl0 md0 B asg pl md) : ∀ b, b < B0.length → B[b]? = B0[b]? := h9.2.2.2.2.2.2.1
theorem CS.bl {d c F : Nat} {ln g : Nat → Nat} {B0 : List Bar} {pl0 md0 : MS} {B : List Bar} {asg : Nat → Option Nat} {pl md : MS} (h9 : CS d c F ln g B0 pl0 md0 B asg pl md) : B0.length ≤ B.length := h9.2.2.2.2.2.2.2.1
theorem CS.dm {d c F : Nat} {ln g : Nat → Nat} {B0 : List Bar} {pl0 md0 : MS} {B : List Bar} {asg : Nat → Option Nat} {pl md : MS} (h9 : CS d c F ln g B0 pl0 md0 B asg pl md) : ∀ (b : Nat) (x : Bar), B0.length ≤ b → B[b]? = some x → x.1 = d := h9.2.2.2.2.2.2.2.2.1
theorem CS.zb {d c F : Nat} {ln g : Nat → Nat} {B0 : List Bar} {pl0 md0 : MS} {B : List Bar} {asg : Nat → Option Nat} {pl md : MS} (h9 : CS d c F ln g B0 pl0 md0 B asg pl md) : ∀ (b : Nat) (x : Bar), B0.length ≤ b → B[b]? = some x → x.2.1 ≤ 30000 := h9.2.2.2.2.2.2.2.2.2.1
theorem CS.kp {d c F : Nat} {ln g : Nat → Nat} {B0 : List Bar} {pl0 md0 : MS} {B : List Bar} {asg : Nat → Option Nat} {pl md : MS} (h9 : CS d c F ln g B0 pl0 md0 B asg pl md) : (∀ k, k ≠ 1 → pl.1 k = pl0.1 k) ∧ pl.2.1 0 = pl0.2.1 0 ∧ pl.2.1 1 = pl0.2.1 1 ∧ (∀ q, q < F → pl.2.1 2 q = pl0.2.1 2 q) := h9.2.2.2.2.2.2.2.2.2.2.1
theorem CS.km {d c F : Nat} {ln g : Nat → Nat} {B0 : List Bar} {pl0 md0 : MS} {B : List Bar} {asg : Nat → Option Nat} {pl md : MS} (h9 : CS d c F ln g B0 pl0 md0 B asg pl md) : (∀ k, k ≠ 5 → md.1 k = md0.1 k) ∧ (∀ k, k < 9 ∨ k = 10 → md.2.1 k = md0.2.1 k) ∧ (∀ k, k < 7 → md.2.2 k = md0.2.2 k) := h9.2.2.2.2.2.2.2.2.2.2.2
theorem CS.mk {d c F : Nat} {ln g : Nat → Nat} {B0 : List Bar} {pl0 md0 : MS} {B : List Bar} {asg : Nat → Option Nat} {pl md : MS} (u_pn : pl.1 0 = jI (F + c : Nat)) (u_mn : md.1 3 = jI c) (u_pp : ∀ p, p < c → pl.2.1 0 (F + p) = jI (ln p) ∧ pl.2.1 1 (F + p) = jI (g p) ∧ md.2.1 10 p = jI (ln p) ∧ md.2.2 6 p = jL (g p)) (u_br : BR B pl md) (u_ag : ∀ p, p < c → ∀ b, asg p = some b → pl.2.1 2 (F + p) = jI b ∧ B0.length ≤ b ∧ b < B.length) (u_ls : ∀ (b : Nat) (x : Bar), B0.length ≤ b → B[b]? = some x → x.2.2.2 = ((List.range c).filter (fun p => asg p = some b)).map ln) (u_b0 : ∀ b, b < B0.length → B[b]? = B0[b]?) (u_bl : B0.length ≤ B.length) (u_dm : ∀ (b : Nat) (x : Bar), B0.length ≤ b → B[b]? = some x → x.1 = d) (u_zb : ∀ (b : Nat) (x : Bar), B0.length ≤ b → B[b]? = some x → x.2.1 ≤ 30000) (u_kp : (∀ k, k ≠ 1 → pl.1 k = pl0.1 k) ∧ pl.2.1 0 = pl0.2.1 0 ∧ pl.2.1 1 = pl0.2.1 1 ∧ (∀ q, q < F → pl.2.1 2 q = pl0.2.1 2 q)) (u_km : (∀ k, k ≠ 5 → md.1 k = md0.1 k) ∧ (∀ k, k < 9 ∨ k = 10 → md.2.1 k = md0.2.1 k) ∧ (∀ k, k < 7 → md.2.2 k = md0.2.2 k)) : CS d c F ln g B0 pl0 md0 B asg pl md := ⟨u_pn, u_mn, u_pp, u_br, u_ag, u_ls, u_b0, u_bl, u_dm, u_zb, u_kp, u_km⟩
section CU
variable {d c F : Nat} {ln g : Nat → Nat} {B0 B : List Bar} {asg : Nat → Option Nat} {pl0 pl md0 md : MS}
theorem cs_open (h : CS d c F ln g B0 pl0 md0 B asg pl md) (hB : B.length < 60) {k s : Nat} (hk : k < 3) (hd : d < 41) (hs : md0.2.2 5 (3 * d + k) = jL s) (hsb : s ≤ 30000) {v : Int} (hv : md.2.1 9 k = jI v) :
    ∃ pl2 m2, f_Pl_openBar pl (jI d) (jI s) = some (jI B.length, pl2) ∧ f_Md_openBar md (jI d) (jI k) = some ((), m2) ∧ CS d c F ln g B0 pl0 md0 (B ++ [(d, s, (s : Int), [])]) asg pl2 m2 ∧ (∀ j, m2.2.1 9 j = if j = k then jI (v - 1) else md.2.1 9 j) ∧ (∀ j, 11 ≤ j → j ≤ 15 → m2.2.1 j = md.2.1 j) := by
  have hs' : md.2.2 5 (3 * d + k) = jL s := by rw [h.km.2.2 5 (by omega)]; exact hs
  have hn := h.br.n
  have hm := h.br.m
  have i1 : ix (jI (B.length : Int)) 60 = true := jx (by omega) (by omega) (by omega)
  have e1 : (jI (B.length : Int)).toNatClampNeg = B.length := by rw [jI_c (by omega) (by omega)]; omega
  have i2 : ix (3 * jI (d : Int) + jI k) 123 = true := by rw [show (3 : Int32) = jI 3 from rfl, jI_mul, jI_add]; exact jx (by omega) (by omega) (by omega)
  have e2 : (3 * jI (d : Int) + jI k).toNatClampNeg = 3 * d + k := by rw [show (3 : Int32) = jI 3 from rfl, jI_mul, jI_add, jI_c (by omega) (by omega)]; omega
  have i3 : ix (jI (k : Int)) 3 = true := jx (by omega) (by omega) (by omega)
  have e3 : (jI (k : Int)).toNatClampNeg = k := by rw [jI_c (by omega) (by omega)]; omega
  have e4 : jI (B.length : Int) + 1 = jI ((B.length + 1 : Nat) : Int) := jI_add _ 1
  have e5 : jI ((B.length + 1 : Nat) : Int) - 1 = jI B.length := by rw [show (1 : Int32) = jI 1 from rfl, jI_sub]; congr 1; omega
  have e6 : jI v - 1 = jI (v - 1) := jI_sub v 1
  refine ⟨sI (sA (sA (sA (sA pl 3 (upd (pl.2.1 3) B.length (jI d))) 4 (upd (pl.2.1 4) B.length (jI s))) 5 (upd (pl.2.1 5) B.length (jI s))) 6 (upd (pl.2.1 6) B.length (jI 0))) 1 (jI ((B.length + 1 : Nat) : Int)), sA (sI (sA (sL (sL (sA md 16 (upd (md.2.1 16) B.length (jI d))) 7 (vp_updL (md.2.2 7) B.length (jL s))) 8 (vp_updL (md.2.2 8) B.length (jL s))) 17 (upd (md.2.1 17) B.length (jI 0))) 5 (jI ((B.length + 1 : Nat) : Int))) 9 (upd (md.2.1 9) k (jI (v - 1))), ?_, ?_, ?_, ?_, ?_⟩
  · unfold f_Pl_openBar
    rw [hn, if_pos (by simp (disch := omega) only [jI_lit, jL_lit, jI_n, jI_add, jI_sub, jI_mul, jI_neg, jL_add, jL_sub, jL_mul, jL_neg, jI_lt, jI_le, jI_eq, jL_lt, jL_le, jL_eq, jI_c, jI_64, jL_32, jI_div, jL_div, jx, bnd, if_true, if_false, if_pos, if_neg, Int.toNat_natCast, Int.reduceToNat, Int.add_zero, Int.zero_add, Int.reduceAdd, Int.reduceSub, Int.reduceMul, Int.reduceNeg, Int.reduceLT, Int.reduceLE, jI_rem, sI_1, sI_2, sA_1, sA_2, sA_3, sL_1, sL_2, sL_3, upd_a, updL_a, vaup_a, Nat.reduceEqDiff, Ab_sz, Ab_tx, Ab_ns, Ab_sn, Ab_sx, Ab_ru, Ab_nl, Ab_lsh, Ab_ld, Ab_lm, Ab_lg, Ab_pd, Ab_px, Ab_py, Ab_pz, Ab_kn, Ab_kl, Ab_km]; omega)]
    simp only [i1, e1, bnd, if_true, sA_1, sA_2, hn, e4, Nat.reduceEqDiff, if_false, sI_1, e5]
    rfl
  · unfold f_Md_openBar
    simp only [hm, i1, e1, i2, e2, i3, e3, bnd, if_true, sA_1, sA_2, sA_3, sL_1, sL_2, sL_3, sI_1, sI_2, Nat.reduceEqDiff, if_false, hs', updL_a, e4, hv, e6]
    rfl
  · refine ⟨?_, ?_, ?_, ⟨?_, ?_, ?_, ?_, ?_⟩, ?_, ?_, ?_, ?_, ?_, ?_, ?_, ?_⟩
    · simp (disch := omega) only [jI_lit, jL_lit, jI_n, jI_add, jI_sub, jI_mul, jI_neg, jL_add, jL_sub, jL_mul, jL_neg, jI_lt, jI_le, jI_eq, jL_lt, jL_le, jL_eq, jI_c, jI_64, jL_32, jI_div, jL_div, jx, bnd, if_true, if_false, if_pos, if_neg, Int.toNat_natCast, Int.reduceToNat, Int.add_zero, Int.zero_add, Int.reduceAdd, Int.reduceSub, Int.reduceMul, Int.reduceNeg, Int.reduceLT, Int.reduceLE, jI_rem, sI_1, sI_2, sA_1, sA_2, sA_3, sL_1, sL_2, sL_3, upd_a, updL_a, vaup_a, Nat.reduceEqDiff, Ab_sz, Ab_tx, Ab_ns, Ab_sn, Ab_sx, Ab_ru, Ab_nl, Ab_lsh, Ab_ld, Ab_lm, Ab_lg, Ab_pd, Ab_px, Ab_py, Ab_pz, Ab_kn, Ab_kl, Ab_km]; exact h.pn
    · simp (disch := omega) only [jI_lit, jL_lit, jI_n, jI_add, jI_sub, jI_mul, jI_neg, jL_add, jL_sub, jL_mul, jL_neg, jI_lt, jI_le, jI_eq, jL_lt, jL_le, jL_eq, jI_c, jI_64, jL_32, jI_div, jL_div, jx, bnd, if_true, if_false, if_pos, if_neg, Int.toNat_natCast, Int.reduceToNat, Int.add_zero, Int.zero_add, Int.reduceAdd, Int.reduceSub, Int.reduceMul, Int.reduceNeg, Int.reduceLT, Int.reduceLE, jI_rem, sI_1, sI_2, sA_1, sA_2, sA_3, sL_1, sL_2, sL_3, upd_a, updL_a, vaup_a, Nat.reduceEqDiff, Ab_sz, Ab_tx, Ab_ns, Ab_sn, Ab_sx, Ab_ru, Ab_nl, Ab_lsh, Ab_ld, Ab_lm, Ab_lg, Ab_pd, Ab_px, Ab_py, Ab_pz, Ab_kn, Ab_kl, Ab_km]; exact h.mn
    · intro p hp; simp (disch := omega) only [jI_lit, jL_lit, jI_n, jI_add, jI_sub, jI_mul, jI_neg, jL_add, jL_sub, jL_mul, jL_neg, jI_lt, jI_le, jI_eq, jL_lt, jL_le, jL_eq, jI_c, jI_64, jL_32, jI_div, jL_div, jx, bnd, if_true, if_false, if_pos, if_neg, Int.toNat_natCast, Int.reduceToNat, Int.add_zero, Int.zero_add, Int.reduceAdd, Int.reduceSub, Int.reduceMul, Int.reduceNeg, Int.reduceLT, Int.reduceLE, jI_rem, sI_1, sI_2, sA_1, sA_2, sA_3, sL_1, sL_2, sL_3, upd_a, updL_a, vaup_a, Nat.reduceEqDiff, Ab_sz, Ab_tx, Ab_ns, Ab_sn, Ab_sx, Ab_ru, Ab_nl, Ab_lsh, Ab_ld, Ab_lm, Ab_lg, Ab_pd, Ab_px, Ab_py, Ab_pz, Ab_kn, Ab_kl, Ab_km]; exact h.pp p hp
    · simp (disch := omega) only [jI_lit, jL_lit, jI_n, jI_add, jI_sub, jI_mul, jI_neg, jL_add, jL_sub, jL_mul, jL_neg, jI_lt, jI_le, jI_eq, jL_lt, jL_le, jL_eq, jI_c, jI_64, jL_32, jI_div, jL_div, jx, bnd, if_true, if_false, if_pos, if_neg, Int.toNat_natCast, Int.reduceToNat, Int.add_zero, Int.zero_add, Int.reduceAdd, Int.reduceSub, Int.reduceMul, Int.reduceNeg, Int.reduceLT, Int.reduceLE, jI_rem, sI_1, sI_2, sA_1, sA_2, sA_3, sL_1, sL_2, sL_3, upd_a, updL_a, vaup_a, Nat.reduceEqDiff, Ab_sz, Ab_tx, Ab_ns, Ab_sn, Ab_sx, Ab_ru, Ab_nl, Ab_lsh, Ab_ld, Ab_lm, Ab_lg, Ab_pd, Ab_px, Ab_py, Ab_pz, Ab_kn, Ab_kl, Ab_km]; simp
    · simp (disch := omega) only [jI_lit, jL_lit, jI_n, jI_add, jI_sub, jI_mul, jI_neg, jL_add, jL_sub, jL_mul, jL_neg, jI_lt, jI_le, jI_eq, jL_lt, jL_le, jL_eq, jI_c, jI_64, jL_32, jI_div, jL_div, jx, bnd, if_true, if_false, if_pos, if_neg, Int.toNat_natCast, Int.reduceToNat, Int.add_zero, Int.zero_add, Int.reduceAdd, Int.reduceSub, Int.reduceMul, Int.reduceNeg, Int.reduceLT, Int.reduceLE, jI_rem, sI_1, sI_2, sA_1, sA_2, sA_3, sL_1, sL_2, sL_3, upd_a, updL_a, vaup_a, Nat.reduceEqDiff, Ab_sz, Ab_tx, Ab_ns, Ab_sn, Ab_sx, Ab_ru, Ab_nl, Ab_lsh, Ab_ld, Ab_lm, Ab_lg, Ab_pd, Ab_px, Ab_py, Ab_pz, Ab_kn, Ab_kl, Ab_km]; simp
    · intro b x hx
      rcases get_app B _ b x hx with ⟨c1, e⟩ | ⟨c1, e⟩
      · simp (disch := omega) only [jI_lit, jL_lit, jI_n, jI_add, jI_sub, jI_mul, jI_neg, jL_add, jL_sub, jL_mul, jL_neg, jI_lt, jI_le, jI_eq, jL_lt, jL_le, jL_eq, jI_c, jI_64, jL_32, jI_div, jL_div, jx, bnd, if_true, if_false, if_pos, if_neg, Int.toNat_natCast, Int.reduceToNat, Int.add_zero, Int.zero_add, Int.reduceAdd, Int.reduceSub, Int.reduceMul, Int.reduceNeg, Int.reduceLT, Int.reduceLE, jI_rem, sI_1, sI_2, sA_1, sA_2, sA_3, sL_1, sL_2, sL_3, upd_a, updL_a, vaup_a, Nat.reduceEqDiff, Ab_sz, Ab_tx, Ab_ns, Ab_sn, Ab_sx, Ab_ru, Ab_nl, Ab_lsh, Ab_ld, Ab_lm, Ab_lg, Ab_pd, Ab_px, Ab_py, Ab_pz, Ab_kn, Ab_kl, Ab_km]; exact h.br.t b x e
      · subst e; subst c1; simp (disch := omega) only [jI_lit, jL_lit, jI_n, jI_add, jI_sub, jI_mul, jI_neg, jL_add, jL_sub, jL_mul, jL_neg, jI_lt, jI_le, jI_eq, jL_lt, jL_le, jL_eq, jI_c, jI_64, jL_32, jI_div, jL_div, jx, bnd, if_true, if_false, if_pos, if_neg, Int.toNat_natCast, Int.reduceToNat, Int.add_zero, Int.zero_add, Int.reduceAdd, Int.reduceSub, Int.reduceMul, Int.reduceNeg, Int.reduceLT, Int.reduceLE, jI_rem, sI_1, sI_2, sA_1, sA_2, sA_3, sL_1, sL_2, sL_3, upd_a, updL_a, vaup_a, Nat.reduceEqDiff, Ab_sz, Ab_tx, Ab_ns, Ab_sn, Ab_sx, Ab_ru, Ab_nl, Ab_lsh, Ab_ld, Ab_lm, Ab_lg, Ab_pd, Ab_px, Ab_py, Ab_pz, Ab_kn, Ab_kl, Ab_km]; simp
    · intro b x hx m y hy
      rcases get_app B _ b x hx with ⟨c1, e⟩ | ⟨c1, e⟩
      · simp (disch := omega) only [jI_lit, jL_lit, jI_n, jI_add, jI_sub, jI_mul, jI_neg, jL_add, jL_sub, jL_mul, jL_neg, jI_lt, jI_le, jI_eq, jL_lt, jL_le, jL_eq, jI_c, jI_64, jL_32, jI_div, jL_div, jx, bnd, if_true, if_false, if_pos, if_neg, Int.toNat_natCast, Int.reduceToNat, Int.add_zero, Int.zero_add, Int.reduceAdd, Int.reduceSub, Int.reduceMul, Int.reduceNeg, Int.reduceLT, Int.reduceLE, jI_rem, sI_1, sI_2, sA_1, sA_2, sA_3, sL_1, sL_2, sL_3, upd_a, updL_a, vaup_a, Nat.reduceEqDiff, Ab_sz, Ab_tx, Ab_ns, Ab_sn, Ab_sx, Ab_ru, Ab_nl, Ab_lsh, Ab_ld, Ab_lm, Ab_lg, Ab_pd, Ab_px, Ab_py, Ab_pz, Ab_kn, Ab_kl, Ab_km]; exact h.br.l b x e m y hy
      · subst e; simp at hy
    · intro b x hx
      rcases get_app B _ b x hx with ⟨c1, e⟩ | ⟨c1, e⟩
      · exact h.br.lb b x e
      · subst e; simp
    · intro p hp b hb
      have := h.ag p hp b hb
      refine ⟨by simp (disch := omega) only [jI_lit, jL_lit, jI_n, jI_add, jI_sub, jI_mul, jI_neg, jL_add, jL_sub, jL_mul, jL_neg, jI_lt, jI_le, jI_eq, jL_lt, jL_le, jL_eq, jI_c, jI_64, jL_32, jI_div, jL_div, jx, bnd, if_true, if_false, if_pos, if_neg, Int.toNat_natCast, Int.reduceToNat, Int.add_zero, Int.zero_add, Int.reduceAdd, Int.reduceSub, Int.reduceMul, Int.reduceNeg, Int.reduceLT, Int.reduceLE, jI_rem, sI_1, sI_2, sA_1, sA_2, sA_3, sL_1, sL_2, sL_3, upd_a, updL_a, vaup_a, Nat.reduceEqDiff, Ab_sz, Ab_tx, Ab_ns, Ab_sn, Ab_sx, Ab_ru, Ab_nl, Ab_lsh, Ab_ld, Ab_lm, Ab_lg, Ab_pd, Ab_px, Ab_py, Ab_pz, Ab_kn, Ab_kl, Ab_km]; exact this.1, this.2.1, by rw [List.length_append]; omega⟩
    · intro b x hb hx
      rcases get_app B _ b x hx with ⟨c1, e⟩ | ⟨c1, e⟩
      · exact h.ls b x hb e
      · subst e; subst c1
        have : (List.range c).filter (fun p => asg p = some B.length) = [] := by
          rw [List.filter_eq_nil_iff]
          intro p hp
          have hp' := List.mem_range.mp hp
          simp only [decide_eq_true_eq]
          intro h9
          have := h.ag p hp' B.length h9
          omega
        rw [this]; rfl
    · intro b hb
      have := h.bl
      rw [List.getElem?_append_left (by omega)]
      exact h.b0 b hb
    · have := h.bl
      rw [List.length_append]; omega
    · intro b x hb hx
      rcases get_app B _ b x hx with ⟨c1, e⟩ | ⟨c1, e⟩
      · exact h.dm b x hb e
      · subst e; rfl
    · intro b x hb hx
      rcases get_app B _ b x hx with ⟨c1, e⟩ | ⟨c1, e⟩
      · exact h.zb b x hb e
      · subst e; exact hsb
    · refine ⟨fun k hk => ?_, ?_, ?_, fun q hq => ?_⟩
      · simp (disch := omega) only [jI_lit, jL_lit, jI_n, jI_add, jI_sub, jI_mul, jI_neg, jL_add, jL_sub, jL_mul, jL_neg, jI_lt, jI_le, jI_eq, jL_lt, jL_le, jL_eq, jI_c, jI_64, jL_32, jI_div, jL_div, jx, bnd, if_true, if_false, if_pos, if_neg, Int.toNat_natCast, Int.reduceToNat, Int.add_zero, Int.zero_add, Int.reduceAdd, Int.reduceSub, Int.reduceMul, Int.reduceNeg, Int.reduceLT, Int.reduceLE, jI_rem, sI_1, sI_2, sA_1, sA_2, sA_3, sL_1, sL_2, sL_3, upd_a, updL_a, vaup_a, Nat.reduceEqDiff, Ab_sz, Ab_tx, Ab_ns, Ab_sn, Ab_sx, Ab_ru, Ab_nl, Ab_lsh, Ab_ld, Ab_lm, Ab_lg, Ab_pd, Ab_px, Ab_py, Ab_pz, Ab_kn, Ab_kl, Ab_km]; exact h.kp.1 k hk
      · simp (disch := omega) only [jI_lit, jL_lit, jI_n, jI_add, jI_sub, jI_mul, jI_neg, jL_add, jL_sub, jL_mul, jL_neg, jI_lt, jI_le, jI_eq, jL_lt, jL_le, jL_eq, jI_c, jI_64, jL_32, jI_div, jL_div, jx, bnd, if_true, if_false, if_pos, if_neg, Int.toNat_natCast, Int.reduceToNat, Int.add_zero, Int.zero_add, Int.reduceAdd, Int.reduceSub, Int.reduceMul, Int.reduceNeg, Int.reduceLT, Int.reduceLE, jI_rem, sI_1, sI_2, sA_1, sA_2, sA_3, sL_1, sL_2, sL_3, upd_a, updL_a, vaup_a, Nat.reduceEqDiff, Ab_sz, Ab_tx, Ab_ns, Ab_sn, Ab_sx, Ab_ru, Ab_nl, Ab_lsh, Ab_ld, Ab_lm, Ab_lg, Ab_pd, Ab_px, Ab_py, Ab_pz, Ab_kn, Ab_kl, Ab_km]; exact h.kp.2.1
      · simp (disch := omega) only [jI_lit, jL_lit, jI_n, jI_add, jI_sub, jI_mul, jI_neg, jL_add, jL_sub, jL_mul, jL_neg, jI_lt, jI_le, jI_eq, jL_lt, jL_le, jL_eq, jI_c, jI_64, jL_32, jI_div, jL_div, jx, bnd, if_true, if_false, if_pos, if_neg, Int.toNat_natCast, Int.reduceToNat, Int.add_zero, Int.zero_add, Int.reduceAdd, Int.reduceSub, Int.reduceMul, Int.reduceNeg, Int.reduceLT, Int.reduceLE, jI_rem, sI_1, sI_2, sA_1, sA_2, sA_3, sL_1, sL_2, sL_3, upd_a, updL_a, vaup_a, Nat.reduceEqDiff, Ab_sz, Ab_tx, Ab_ns, Ab_sn, Ab_sx, Ab_ru, Ab_nl, Ab_lsh, Ab_ld, Ab_lm, Ab_lg, Ab_pd, Ab_px, Ab_py, Ab_pz, Ab_kn, Ab_kl, Ab_km]; exact h.kp.2.2.1
      · simp (disch := omega) only [jI_lit, jL_lit, jI_n, jI_add, jI_sub, jI_mul, jI_neg, jL_add, jL_sub, jL_mul, jL_neg, jI_lt, jI_le, jI_eq, jL_lt, jL_le, jL_eq, jI_c, jI_64, jL_32, jI_div, jL_div, jx, bnd, if_true, if_false, if_pos, if_neg, Int.toNat_natCast, Int.reduceToNat, Int.add_zero, Int.zero_add, Int.reduceAdd, Int.reduceSub, Int.reduceMul, Int.reduceNeg, Int.reduceLT, Int.reduceLE, jI_rem, sI_1, sI_2, sA_1, sA_2, sA_3, sL_1, sL_2, sL_3, upd_a, updL_a, vaup_a, Nat.reduceEqDiff, Ab_sz, Ab_tx, Ab_ns, Ab_sn, Ab_sx, Ab_ru, Ab_nl, Ab_lsh, Ab_ld, Ab_lm, Ab_lg, Ab_pd, Ab_px, Ab_py, Ab_pz, Ab_kn, Ab_kl, Ab_km]; exact h.kp.2.2.2 q hq
    · refine ⟨fun k hk => ?_, fun k hk => ?_, fun k hk => ?_⟩
      · simp (disch := omega) only [jI_lit, jL_lit, jI_n, jI_add, jI_sub, jI_mul, jI_neg, jL_add, jL_sub, jL_mul, jL_neg, jI_lt, jI_le, jI_eq, jL_lt, jL_le, jL_eq, jI_c, jI_64, jL_32, jI_div, jL_div, jx, bnd, if_true, if_false, if_pos, if_neg, Int.toNat_natCast, Int.reduceToNat, Int.add_zero, Int.zero_add, Int.reduceAdd, Int.reduceSub, Int.reduceMul, Int.reduceNeg, Int.reduceLT, Int.reduceLE, jI_rem, sI_1, sI_2, sA_1, sA_2, sA_3, sL_1, sL_2, sL_3, upd_a, updL_a, vaup_a, Nat.reduceEqDiff, Ab_sz, Ab_tx, Ab_ns, Ab_sn, Ab_sx, Ab_ru, Ab_nl, Ab_lsh, Ab_ld, Ab_lm, Ab_lg, Ab_pd, Ab_px, Ab_py, Ab_pz, Ab_kn, Ab_kl, Ab_km]; exact h.km.1 k hk
      · simp (disch := omega) only [jI_lit, jL_lit, jI_n, jI_add, jI_sub, jI_mul, jI_neg, jL_add, jL_sub, jL_mul, jL_neg, jI_lt, jI_le, jI_eq, jL_lt, jL_le, jL_eq, jI_c, jI_64, jL_32, jI_div, jL_div, jx, bnd, if_true, if_false, if_pos, if_neg, Int.toNat_natCast, Int.reduceToNat, Int.add_zero, Int.zero_add, Int.reduceAdd, Int.reduceSub, Int.reduceMul, Int.reduceNeg, Int.reduceLT, Int.reduceLE, jI_rem, sI_1, sI_2, sA_1, sA_2, sA_3, sL_1, sL_2, sL_3, upd_a, updL_a, vaup_a, Nat.reduceEqDiff, Ab_sz, Ab_tx, Ab_ns, Ab_sn, Ab_sx, Ab_ru, Ab_nl, Ab_lsh, Ab_ld, Ab_lm, Ab_lg, Ab_pd, Ab_px, Ab_py, Ab_pz, Ab_kn, Ab_kl, Ab_km]; exact h.km.2.1 k hk
      · simp (disch := omega) only [jI_lit, jL_lit, jI_n, jI_add, jI_sub, jI_mul, jI_neg, jL_add, jL_sub, jL_mul, jL_neg, jI_lt, jI_le, jI_eq, jL_lt, jL_le, jL_eq, jI_c, jI_64, jL_32, jI_div, jL_div, jx, bnd, if_true, if_false, if_pos, if_neg, Int.toNat_natCast, Int.reduceToNat, Int.add_zero, Int.zero_add, Int.reduceAdd, Int.reduceSub, Int.reduceMul, Int.reduceNeg, Int.reduceLT, Int.reduceLE, jI_rem, sI_1, sI_2, sA_1, sA_2, sA_3, sL_1, sL_2, sL_3, upd_a, updL_a, vaup_a, Nat.reduceEqDiff, Ab_sz, Ab_tx, Ab_ns, Ab_sn, Ab_sx, Ab_ru, Ab_nl, Ab_lsh, Ab_ld, Ab_lm, Ab_lg, Ab_pd, Ab_px, Ab_py, Ab_pz, Ab_kn, Ab_kl, Ab_km]; exact h.km.2.2 k hk
  · intro j; simp (disch := omega) only [jI_lit, jL_lit, jI_n, jI_add, jI_sub, jI_mul, jI_neg, jL_add, jL_sub, jL_mul, jL_neg, jI_lt, jI_le, jI_eq, jL_lt, jL_le, jL_eq, jI_c, jI_64, jL_32, jI_div, jL_div, jx, bnd, if_true, if_false, if_pos, if_neg, Int.toNat_natCast, Int.reduceToNat, Int.add_zero, Int.zero_add, Int.reduceAdd, Int.reduceSub, Int.reduceMul, Int.reduceNeg, Int.reduceLT, Int.reduceLE, jI_rem, sI_1, sI_2, sA_1, sA_2, sA_3, sL_1, sL_2, sL_3, upd_a, updL_a, vaup_a, Nat.reduceEqDiff, Ab_sz, Ab_tx, Ab_ns, Ab_sn, Ab_sx, Ab_ru, Ab_nl, Ab_lsh, Ab_ld, Ab_lm, Ab_lg, Ab_pd, Ab_px, Ab_py, Ab_pz, Ab_kn, Ab_kl, Ab_km]
  · intro j h1 h2; simp (disch := omega) only [jI_lit, jL_lit, jI_n, jI_add, jI_sub, jI_mul, jI_neg, jL_add, jL_sub, jL_mul, jL_neg, jI_lt, jI_le, jI_eq, jL_lt, jL_le, jL_eq, jI_c, jI_64, jL_32, jI_div, jL_div, jx, bnd, if_true, if_false, if_pos, if_neg, Int.toNat_natCast, Int.reduceToNat, Int.add_zero, Int.zero_add, Int.reduceAdd, Int.reduceSub, Int.reduceMul, Int.reduceNeg, Int.reduceLT, Int.reduceLE, jI_rem, sI_1, sI_2, sA_1, sA_2, sA_3, sL_1, sL_2, sL_3, upd_a, updL_a, vaup_a, Nat.reduceEqDiff, Ab_sz, Ab_tx, Ab_ns, Ab_sn, Ab_sx, Ab_ru, Ab_nl, Ab_lsh, Ab_ld, Ab_lm, Ab_lg, Ab_pd, Ab_px, Ab_py, Ab_pz, Ab_kn, Ab_kl, Ab_km]
theorem cs_put (h : CS d c F ln g B0 pl0 md0 B asg pl md) (hF : F + c ≤ 60) {p b : Nat} (hp : p < c) (hb0 : B0.length ≤ b) (hb : b < B.length) (hBl : B.length ≤ 60) (hu : asg p = none) (hq : ∀ q, p < q → q < c → asg q ≠ some b) :
    ∃ pl2 m2, f_Pl_putPiece pl (jI ((F + p : Nat) : Int)) (jI b) = some ((), pl2) ∧ f_Md_put md (jI b) (jI p) = some ((), m2) ∧ CS d c F ln g B0 pl0 md0 (B.set b ((B[b]).1, (B[b]).2.1, (B[b]).2.2.1 - g p, (B[b]).2.2.2 ++ [ln p])) (fun q => if q = p then some b else asg q) pl2 m2 ∧ (∀ j, j = 9 ∨ 11 ≤ j ∧ j ≤ 15 → m2.2.1 j = md.2.1 j) := by
  have e0 := List.getElem?_eq_getElem hb
  have t := h.br.t b _ e0
  have pp := h.pp p hp
  have hls := h.ls b _ hb0 e0
  have hlen : (B[b]).2.2.2.length < 60 := by
    rw [hls, List.length_map]
    have h1 : ((List.range c).filter (fun q => asg q = some b)).length ≤ p := by
      have h2 : (List.range c).filter (fun q => asg q = some b) = (List.range p).filter (fun q => asg q = some b) := by
        obtain ⟨r, rfl⟩ : ∃ r, c = p + r := ⟨c - p, by omega⟩
        rw [List.range_add, List.filter_append]
        have : ((List.range r).map (fun x => p + x)).filter (fun q => asg q = some b) = [] := by
          rw [List.filter_eq_nil_iff]
          intro q hq'
          obtain ⟨x, hx, rfl⟩ := List.mem_map.mp hq'
          have hx := List.mem_range.mp hx
          simp only [decide_eq_true_eq]
          by_cases e : x = 0
          · subst e; rw [Nat.add_zero, hu]; simp
          · exact hq (p + x) (by omega) (by omega)
        rw [this, List.append_nil]
      rw [h2]
      exact Nat.le_trans (List.length_filter_le _ _) (by rw [List.length_range]; exact Nat.le_refl _)
    omega
  have i1 : ix (jI ((F + p : Nat) : Int)) 60 = true := jx (by omega) (by omega) (by omega)
  have e1 : (jI ((F + p : Nat) : Int)).toNatClampNeg = F + p := by rw [jI_c (by omega) (by omega)]; omega
  have i2 : ix (jI (b : Int)) 60 = true := jx (by omega) (by omega) (by omega)
  have e2 : (jI (b : Int)).toNatClampNeg = b := by rw [jI_c (by omega) (by omega)]; omega
  have i3 : ix (jI (p : Int)) 60 = true := jx (by omega) (by omega) (by omega)
  have e3 : (jI (p : Int)).toNatClampNeg = p := by rw [jI_c (by omega) (by omega)]; omega
  have i4 : ix (60 * jI (b : Int) + jI ((B[b]).2.2.2.length : Int)) 3600 = true := by rw [show (60 : Int32) = jI 60 from rfl, jI_mul, jI_add]; exact jx (by omega) (by omega) (by omega)
  have e4 : (60 * jI (b : Int) + jI ((B[b]).2.2.2.length : Int)).toNatClampNeg = 60 * b + (B[b]).2.2.2.length := by rw [show (60 : Int32) = jI 60 from rfl, jI_mul, jI_add, jI_c (by omega) (by omega)]; omega
  have e5 : jI ((B[b]).2.2.2.length : Int) + 1 = jI (((B[b]).2.2.2.length + 1 : Nat) : Int) := jI_add _ 1
  have e6 : jI (B[b]).2.2.1 - jI (g p) = jI ((B[b]).2.2.1 - g p) := jI_sub _ _
  have e7 : jL (B[b]).2.2.1 - jL (g p) = jL ((B[b]).2.2.1 - g p) := jL_sub _ _
  refine ⟨sA (sA (sA pl 2 (upd (pl.2.1 2) (F + p) (jI b))) 5 (upd (pl.2.1 5) b (jI ((B[b]).2.2.1 - g p)))) 6 (upd (pl.2.1 6) b (jI (((B[b]).2.2.2.length + 1 : Nat) : Int))), sL (sA (sA md 18 (upd (md.2.1 18) (60 * b + (B[b]).2.2.2.length) (jI (ln p)))) 17 (upd (md.2.1 17) b (jI (((B[b]).2.2.2.length + 1 : Nat) : Int)))) 8 (vp_updL (md.2.2 8) b (jL ((B[b]).2.2.1 - g p))), ?_, ?_, ?_, ?_⟩
  · unfold f_Pl_putPiece
    simp only [i1, e1, i2, e2, bnd, if_true, sA_2, Nat.reduceEqDiff, if_false, t.2.2.1, pp.2.1, e6, t.2.2.2.1, e5]
  · unfold f_Md_put
    simp only [i2, e2, i3, e3, t.2.2.2.2.2.2.2, i4, e4, bnd, if_true, sA_2, sA_3, Nat.reduceEqDiff, if_false, pp.2.2.1, pp.2.2.2, e5, t.2.2.2.2.2.2.1, e7]
  · refine ⟨?_, ?_, ?_, ⟨?_, ?_, ?_, ?_, ?_⟩, ?_, ?_, ?_, ?_, ?_, ?_, ?_, ?_⟩
    · simp (disch := omega) only [jI_lit, jL_lit, jI_n, jI_add, jI_sub, jI_mul, jI_neg, jL_add, jL_sub, jL_mul, jL_neg, jI_lt, jI_le, jI_eq, jL_lt, jL_le, jL_eq, jI_c, jI_64, jL_32, jI_div, jL_div, jx, bnd, if_true, if_false, if_pos, if_neg, Int.toNat_natCast, Int.reduceToNat, Int.add_zero, Int.zero_add, Int.reduceAdd, Int.reduceSub, Int.reduceMul, Int.reduceNeg, Int.reduceLT, Int.reduceLE, jI_rem, sI_1, sI_2, sA_1, sA_2, sA_3, sL_1, sL_2, sL_3, upd_a, updL_a, vaup_a, Nat.reduceEqDiff, Ab_sz, Ab_tx, Ab_ns, Ab_sn, Ab_sx, Ab_ru, Ab_nl, Ab_lsh, Ab_ld, Ab_lm, Ab_lg, Ab_pd, Ab_px, Ab_py, Ab_pz, Ab_kn, Ab_kl, Ab_km]; exact h.pn
    · simp (disch := omega) only [jI_lit, jL_lit, jI_n, jI_add, jI_sub, jI_mul, jI_neg, jL_add, jL_sub, jL_mul, jL_neg, jI_lt, jI_le, jI_eq, jL_lt, jL_le, jL_eq, jI_c, jI_64, jL_32, jI_div, jL_div, jx, bnd, if_true, if_false, if_pos, if_neg, Int.toNat_natCast, Int.reduceToNat, Int.add_zero, Int.zero_add, Int.reduceAdd, Int.reduceSub, Int.reduceMul, Int.reduceNeg, Int.reduceLT, Int.reduceLE, jI_rem, sI_1, sI_2, sA_1, sA_2, sA_3, sL_1, sL_2, sL_3, upd_a, updL_a, vaup_a, Nat.reduceEqDiff, Ab_sz, Ab_tx, Ab_ns, Ab_sn, Ab_sx, Ab_ru, Ab_nl, Ab_lsh, Ab_ld, Ab_lm, Ab_lg, Ab_pd, Ab_px, Ab_py, Ab_pz, Ab_kn, Ab_kl, Ab_km]; exact h.mn
    · intro p hp; simp (disch := omega) only [jI_lit, jL_lit, jI_n, jI_add, jI_sub, jI_mul, jI_neg, jL_add, jL_sub, jL_mul, jL_neg, jI_lt, jI_le, jI_eq, jL_lt, jL_le, jL_eq, jI_c, jI_64, jL_32, jI_div, jL_div, jx, bnd, if_true, if_false, if_pos, if_neg, Int.toNat_natCast, Int.reduceToNat, Int.add_zero, Int.zero_add, Int.reduceAdd, Int.reduceSub, Int.reduceMul, Int.reduceNeg, Int.reduceLT, Int.reduceLE, jI_rem, sI_1, sI_2, sA_1, sA_2, sA_3, sL_1, sL_2, sL_3, upd_a, updL_a, vaup_a, Nat.reduceEqDiff, Ab_sz, Ab_tx, Ab_ns, Ab_sn, Ab_sx, Ab_ru, Ab_nl, Ab_lsh, Ab_ld, Ab_lm, Ab_lg, Ab_pd, Ab_px, Ab_py, Ab_pz, Ab_kn, Ab_kl, Ab_km]; exact h.pp p hp
    · rw [List.length_set]; simp (disch := omega) only [jI_lit, jL_lit, jI_n, jI_add, jI_sub, jI_mul, jI_neg, jL_add, jL_sub, jL_mul, jL_neg, jI_lt, jI_le, jI_eq, jL_lt, jL_le, jL_eq, jI_c, jI_64, jL_32, jI_div, jL_div, jx, bnd, if_true, if_false, if_pos, if_neg, Int.toNat_natCast, Int.reduceToNat, Int.add_zero, Int.zero_add, Int.reduceAdd, Int.reduceSub, Int.reduceMul, Int.reduceNeg, Int.reduceLT, Int.reduceLE, jI_rem, sI_1, sI_2, sA_1, sA_2, sA_3, sL_1, sL_2, sL_3, upd_a, updL_a, vaup_a, Nat.reduceEqDiff, Ab_sz, Ab_tx, Ab_ns, Ab_sn, Ab_sx, Ab_ru, Ab_nl, Ab_lsh, Ab_ld, Ab_lm, Ab_lg, Ab_pd, Ab_px, Ab_py, Ab_pz, Ab_kn, Ab_kl, Ab_km]; exact h.br.n
    · rw [List.length_set]; simp (disch := omega) only [jI_lit, jL_lit, jI_n, jI_add, jI_sub, jI_mul, jI_neg, jL_add, jL_sub, jL_mul, jL_neg, jI_lt, jI_le, jI_eq, jL_lt, jL_le, jL_eq, jI_c, jI_64, jL_32, jI_div, jL_div, jx, bnd, if_true, if_false, if_pos, if_neg, Int.toNat_natCast, Int.reduceToNat, Int.add_zero, Int.zero_add, Int.reduceAdd, Int.reduceSub, Int.reduceMul, Int.reduceNeg, Int.reduceLT, Int.reduceLE, jI_rem, sI_1, sI_2, sA_1, sA_2, sA_3, sL_1, sL_2, sL_3, upd_a, updL_a, vaup_a, Nat.reduceEqDiff, Ab_sz, Ab_tx, Ab_ns, Ab_sn, Ab_sx, Ab_ru, Ab_nl, Ab_lsh, Ab_ld, Ab_lm, Ab_lg, Ab_pd, Ab_px, Ab_py, Ab_pz, Ab_kn, Ab_kl, Ab_km]; exact h.br.m
    · intro y x hx
      by_cases e : y = b
      · subst e
        rw [List.getElem?_set_self hb] at hx
        obtain rfl := Option.some.inj hx
        simp (disch := omega) only [jI_lit, jL_lit, jI_n, jI_add, jI_sub, jI_mul, jI_neg, jL_add, jL_sub, jL_mul, jL_neg, jI_lt, jI_le, jI_eq, jL_lt, jL_le, jL_eq, jI_c, jI_64, jL_32, jI_div, jL_div, jx, bnd, if_true, if_false, if_pos, if_neg, Int.toNat_natCast, Int.reduceToNat, Int.add_zero, Int.zero_add, Int.reduceAdd, Int.reduceSub, Int.reduceMul, Int.reduceNeg, Int.reduceLT, Int.reduceLE, jI_rem, sI_1, sI_2, sA_1, sA_2, sA_3, sL_1, sL_2, sL_3, upd_a, updL_a, vaup_a, Nat.reduceEqDiff, Ab_sz, Ab_tx, Ab_ns, Ab_sn, Ab_sx, Ab_ru, Ab_nl, Ab_lsh, Ab_ld, Ab_lm, Ab_lg, Ab_pd, Ab_px, Ab_py, Ab_pz, Ab_kn, Ab_kl, Ab_km]
        exact ⟨t.1, t.2.1, trivial, by simp, t.2.2.2.2.1, t.2.2.2.2.2.1, trivial, by simp⟩
      · rw [List.getElem?_set_ne (by omega)] at hx
        simp (disch := omega) only [jI_lit, jL_lit, jI_n, jI_add, jI_sub, jI_mul, jI_neg, jL_add, jL_sub, jL_mul, jL_neg, jI_lt, jI_le, jI_eq, jL_lt, jL_le, jL_eq, jI_c, jI_64, jL_32, jI_div, jL_div, jx, bnd, if_true, if_false, if_pos, if_neg, Int.toNat_natCast, Int.reduceToNat, Int.add_zero, Int.zero_add, Int.reduceAdd, Int.reduceSub, Int.reduceMul, Int.reduceNeg, Int.reduceLT, Int.reduceLE, jI_rem, sI_1, sI_2, sA_1, sA_2, sA_3, sL_1, sL_2, sL_3, upd_a, updL_a, vaup_a, Nat.reduceEqDiff, Ab_sz, Ab_tx, Ab_ns, Ab_sn, Ab_sx, Ab_ru, Ab_nl, Ab_lsh, Ab_ld, Ab_lm, Ab_lg, Ab_pd, Ab_px, Ab_py, Ab_pz, Ab_kn, Ab_kl, Ab_km]
        exact h.br.t y x hx
    · intro y x hx m z hz
      by_cases e : y = b
      · subst e
        rw [List.getElem?_set_self hb] at hx
        obtain rfl := Option.some.inj hx
        rcases get_app _ _ m z hz with ⟨c1, e9⟩ | ⟨c1, e9⟩
        · simp (disch := omega) only [jI_lit, jL_lit, jI_n, jI_add, jI_sub, jI_mul, jI_neg, jL_add, jL_sub, jL_mul, jL_neg, jI_lt, jI_le, jI_eq, jL_lt, jL_le, jL_eq, jI_c, jI_64, jL_32, jI_div, jL_div, jx, bnd, if_true, if_false, if_pos, if_neg, Int.toNat_natCast, Int.reduceToNat, Int.add_zero, Int.zero_add, Int.reduceAdd, Int.reduceSub, Int.reduceMul, Int.reduceNeg, Int.reduceLT, Int.reduceLE, jI_rem, sI_1, sI_2, sA_1, sA_2, sA_3, sL_1, sL_2, sL_3, upd_a, updL_a, vaup_a, Nat.reduceEqDiff, Ab_sz, Ab_tx, Ab_ns, Ab_sn, Ab_sx, Ab_ru, Ab_nl, Ab_lsh, Ab_ld, Ab_lm, Ab_lg, Ab_pd, Ab_px, Ab_py, Ab_pz, Ab_kn, Ab_kl, Ab_km]; exact h.br.l y _ e0 m z e9
        · subst e9; subst c1; simp (disch := omega) only [jI_lit, jL_lit, jI_n, jI_add, jI_sub, jI_mul, jI_neg, jL_add, jL_sub, jL_mul, jL_neg, jI_lt, jI_le, jI_eq, jL_lt, jL_le, jL_eq, jI_c, jI_64, jL_32, jI_div, jL_div, jx, bnd, if_true, if_false, if_pos, if_neg, Int.toNat_natCast, Int.reduceToNat, Int.add_zero, Int.zero_add, Int.reduceAdd, Int.reduceSub, Int.reduceMul, Int.reduceNeg, Int.reduceLT, Int.reduceLE, jI_rem, sI_1, sI_2, sA_1, sA_2, sA_3, sL_1, sL_2, sL_3, upd_a, updL_a, vaup_a, Nat.reduceEqDiff, Ab_sz, Ab_tx, Ab_ns, Ab_sn, Ab_sx, Ab_ru, Ab_nl, Ab_lsh, Ab_ld, Ab_lm, Ab_lg, Ab_pd, Ab_px, Ab_py, Ab_pz, Ab_kn, Ab_kl, Ab_km]
      · rw [List.getElem?_set_ne (by omega)] at hx
        have hm := (List.getElem?_eq_some_iff.mp hz).1
        have hy := (List.getElem?_eq_some_iff.mp hx).1
        have hlb := h.br.lb y x hx
        simp (disch := omega) only [jI_lit, jL_lit, jI_n, jI_add, jI_sub, jI_mul, jI_neg, jL_add, jL_sub, jL_mul, jL_neg, jI_lt, jI_le, jI_eq, jL_lt, jL_le, jL_eq, jI_c, jI_64, jL_32, jI_div, jL_div, jx, bnd, if_true, if_false, if_pos, if_neg, Int.toNat_natCast, Int.reduceToNat, Int.add_zero, Int.zero_add, Int.reduceAdd, Int.reduceSub, Int.reduceMul, Int.reduceNeg, Int.reduceLT, Int.reduceLE, jI_rem, sI_1, sI_2, sA_1, sA_2, sA_3, sL_1, sL_2, sL_3, upd_a, updL_a, vaup_a, Nat.reduceEqDiff, Ab_sz, Ab_tx, Ab_ns, Ab_sn, Ab_sx, Ab_ru, Ab_nl, Ab_lsh, Ab_ld, Ab_lm, Ab_lg, Ab_pd, Ab_px, Ab_py, Ab_pz, Ab_kn, Ab_kl, Ab_km]; exact h.br.l y x hx m z hz
    · intro y x hx
      by_cases e : y = b
      · subst e
        rw [List.getElem?_set_self hb] at hx
        obtain rfl := Option.some.inj hx
        simp only [List.length_append, List.length_singleton]; omega
      · rw [List.getElem?_set_ne (by omega)] at hx
        exact h.br.lb y x hx
    · intro q hq' y hy
      have hy : (if q = p then some b else asg q) = some y := hy
      rw [List.length_set]
      by_cases e : q = p
      · rw [if_pos e] at hy
        obtain rfl := Option.some.inj hy
        refine ⟨by simp (disch := omega) only [jI_lit, jL_lit, jI_n, jI_add, jI_sub, jI_mul, jI_neg, jL_add, jL_sub, jL_mul, jL_neg, jI_lt, jI_le, jI_eq, jL_lt, jL_le, jL_eq, jI_c, jI_64, jL_32, jI_div, jL_div, jx, bnd, if_true, if_false, if_pos, if_neg, Int.toNat_natCast, Int.reduceToNat, Int.add_zero, Int.zero_add, Int.reduceAdd, Int.reduceSub, Int.reduceMul, Int.reduceNeg, Int.reduceLT, Int.reduceLE, jI_rem, sI_1, sI_2, sA_1, sA_2, sA_3, sL_1, sL_2, sL_3, upd_a, updL_a, vaup_a, Nat.reduceEqDiff, Ab_sz, Ab_tx, Ab_ns, Ab_sn, Ab_sx, Ab_ru, Ab_nl, Ab_lsh, Ab_ld, Ab_lm, Ab_lg, Ab_pd, Ab_px, Ab_py, Ab_pz, Ab_kn, Ab_kl, Ab_km], hb0, hb⟩
      · rw [if_neg e] at hy
        have := h.ag q hq' y hy
        refine ⟨by simp (disch := omega) only [jI_lit, jL_lit, jI_n, jI_add, jI_sub, jI_mul, jI_neg, jL_add, jL_sub, jL_mul, jL_neg, jI_lt, jI_le, jI_eq, jL_lt, jL_le, jL_eq, jI_c, jI_64, jL_32, jI_div, jL_div, jx, bnd, if_true, if_false, if_pos, if_neg, Int.toNat_natCast, Int.reduceToNat, Int.add_zero, Int.zero_add, Int.reduceAdd, Int.reduceSub, Int.reduceMul, Int.reduceNeg, Int.reduceLT, Int.reduceLE, jI_rem, sI_1, sI_2, sA_1, sA_2, sA_3, sL_1, sL_2, sL_3, upd_a, updL_a, vaup_a, Nat.reduceEqDiff, Ab_sz, Ab_tx, Ab_ns, Ab_sn, Ab_sx, Ab_ru, Ab_nl, Ab_lsh, Ab_ld, Ab_lm, Ab_lg, Ab_pd, Ab_px, Ab_py, Ab_pz, Ab_kn, Ab_kl, Ab_km]; exact this.1, this.2⟩
    · intro y x hy hx
      by_cases e : y = b
      · subst e
        rw [List.getElem?_set_self hb] at hx
        obtain rfl := Option.some.inj hx
        simp only
        rw [hls]
        obtain ⟨r, rfl⟩ : ∃ r, c = p + (r + 1) := ⟨c - p - 1, by omega⟩
        rw [List.range_add, List.filter_append, List.filter_append, List.map_append, List.map_append, List.range_succ_eq_map]
        have h1 : (List.range p).filter (fun q => decide ((if q = p then some y else asg q) = some y)) = (List.range p).filter (fun q => decide (asg q = some y)) := by
          apply List.filter_congr
          intro q hq'
          have := List.mem_range.mp hq'
          rw [if_neg (by omega)]
        rw [h1]
        simp only [List.map_cons, Nat.add_zero, List.filter_cons, if_true, decide_true, hu]
        have h2 : ((List.map Nat.succ (List.range r)).map (fun x => p + x)).filter (fun q => decide (asg q = some y)) = [] := by
          rw [List.filter_eq_nil_iff]
          intro q hq'
          simp only [List.mem_map, List.mem_range] at hq'
          obtain ⟨x, ⟨z, hz, rfl⟩, rfl⟩ := hq'
          simp only [decide_eq_true_eq]
          exact hq _ (by omega) (by omega)
        have h3 : ((List.map Nat.succ (List.range r)).map (fun x => p + x)).filter (fun q => decide ((if q = p then some y else asg q) = some y)) = [] := by
          rw [List.filter_eq_nil_iff]
          intro q hq'
          simp only [List.mem_map, List.mem_range] at hq'
          obtain ⟨x, ⟨z, hz, rfl⟩, rfl⟩ := hq'
          simp only [decide_eq_true_eq]
          rw [if_neg (by omega)]
          exact hq _ (by omega) (by omega)
        rw [h2, h3]
        simp
      · rw [List.getElem?_set_ne (by omega)] at hx
        rw [h.ls y x hy hx]
        congr 1
        apply List.filter_congr
        intro q hq'
        show decide (asg q = some y) = decide ((if q = p then some b else asg q) = some y)
        by_cases e2 : q = p
        · subst e2; rw [if_pos rfl, hu]; simp; omega
        · rw [if_neg e2]
    · intro y hy
      rw [List.getElem?_set_ne (by omega)]
      exact h.b0 y hy
    · rw [List.length_set]; exact h.bl
    · intro y x hy hx
      by_cases e : y = b
      · subst e
        rw [List.getElem?_set_self hb] at hx
        obtain rfl := Option.some.inj hx
        exact h.dm y (B[y]) hy e0
      · rw [List.getElem?_set_ne (by omega)] at hx
        exact h.dm y x hy hx
    · intro y x hy hx
      by_cases e : y = b
      · subst e
        rw [List.getElem?_set_self hb] at hx
        obtain rfl := Option.some.inj hx
        exact h.zb y (B[y]) hy e0
      · rw [List.getElem?_set_ne (by omega)] at hx
        exact h.zb y x hy hx
    · refine ⟨fun k hk => ?_, ?_, ?_, fun q hq => ?_⟩
      · simp (disch := omega) only [jI_lit, jL_lit, jI_n, jI_add, jI_sub, jI_mul, jI_neg, jL_add, jL_sub, jL_mul, jL_neg, jI_lt, jI_le, jI_eq, jL_lt, jL_le, jL_eq, jI_c, jI_64, jL_32, jI_div, jL_div, jx, bnd, if_true, if_false, if_pos, if_neg, Int.toNat_natCast, Int.reduceToNat, Int.add_zero, Int.zero_add, Int.reduceAdd, Int.reduceSub, Int.reduceMul, Int.reduceNeg, Int.reduceLT, Int.reduceLE, jI_rem, sI_1, sI_2, sA_1, sA_2, sA_3, sL_1, sL_2, sL_3, upd_a, updL_a, vaup_a, Nat.reduceEqDiff, Ab_sz, Ab_tx, Ab_ns, Ab_sn, Ab_sx, Ab_ru, Ab_nl, Ab_lsh, Ab_ld, Ab_lm, Ab_lg, Ab_pd, Ab_px, Ab_py, Ab_pz, Ab_kn, Ab_kl, Ab_km]; exact h.kp.1 k hk
      · simp (disch := omega) only [jI_lit, jL_lit, jI_n, jI_add, jI_sub, jI_mul, jI_neg, jL_add, jL_sub, jL_mul, jL_neg, jI_lt, jI_le, jI_eq, jL_lt, jL_le, jL_eq, jI_c, jI_64, jL_32, jI_div, jL_div, jx, bnd, if_true, if_false, if_pos, if_neg, Int.toNat_natCast, Int.reduceToNat, Int.add_zero, Int.zero_add, Int.reduceAdd, Int.reduceSub, Int.reduceMul, Int.reduceNeg, Int.reduceLT, Int.reduceLE, jI_rem, sI_1, sI_2, sA_1, sA_2, sA_3, sL_1, sL_2, sL_3, upd_a, updL_a, vaup_a, Nat.reduceEqDiff, Ab_sz, Ab_tx, Ab_ns, Ab_sn, Ab_sx, Ab_ru, Ab_nl, Ab_lsh, Ab_ld, Ab_lm, Ab_lg, Ab_pd, Ab_px, Ab_py, Ab_pz, Ab_kn, Ab_kl, Ab_km]; exact h.kp.2.1
      · simp (disch := omega) only [jI_lit, jL_lit, jI_n, jI_add, jI_sub, jI_mul, jI_neg, jL_add, jL_sub, jL_mul, jL_neg, jI_lt, jI_le, jI_eq, jL_lt, jL_le, jL_eq, jI_c, jI_64, jL_32, jI_div, jL_div, jx, bnd, if_true, if_false, if_pos, if_neg, Int.toNat_natCast, Int.reduceToNat, Int.add_zero, Int.zero_add, Int.reduceAdd, Int.reduceSub, Int.reduceMul, Int.reduceNeg, Int.reduceLT, Int.reduceLE, jI_rem, sI_1, sI_2, sA_1, sA_2, sA_3, sL_1, sL_2, sL_3, upd_a, updL_a, vaup_a, Nat.reduceEqDiff, Ab_sz, Ab_tx, Ab_ns, Ab_sn, Ab_sx, Ab_ru, Ab_nl, Ab_lsh, Ab_ld, Ab_lm, Ab_lg, Ab_pd, Ab_px, Ab_py, Ab_pz, Ab_kn, Ab_kl, Ab_km]; exact h.kp.2.2.1
      · simp (disch := omega) only [jI_lit, jL_lit, jI_n, jI_add, jI_sub, jI_mul, jI_neg, jL_add, jL_sub, jL_mul, jL_neg, jI_lt, jI_le, jI_eq, jL_lt, jL_le, jL_eq, jI_c, jI_64, jL_32, jI_div, jL_div, jx, bnd, if_true, if_false, if_pos, if_neg, Int.toNat_natCast, Int.reduceToNat, Int.add_zero, Int.zero_add, Int.reduceAdd, Int.reduceSub, Int.reduceMul, Int.reduceNeg, Int.reduceLT, Int.reduceLE, jI_rem, sI_1, sI_2, sA_1, sA_2, sA_3, sL_1, sL_2, sL_3, upd_a, updL_a, vaup_a, Nat.reduceEqDiff, Ab_sz, Ab_tx, Ab_ns, Ab_sn, Ab_sx, Ab_ru, Ab_nl, Ab_lsh, Ab_ld, Ab_lm, Ab_lg, Ab_pd, Ab_px, Ab_py, Ab_pz, Ab_kn, Ab_kl, Ab_km]; exact h.kp.2.2.2 q hq
    · refine ⟨fun k hk => ?_, fun k hk => ?_, fun k hk => ?_⟩
      · simp (disch := omega) only [jI_lit, jL_lit, jI_n, jI_add, jI_sub, jI_mul, jI_neg, jL_add, jL_sub, jL_mul, jL_neg, jI_lt, jI_le, jI_eq, jL_lt, jL_le, jL_eq, jI_c, jI_64, jL_32, jI_div, jL_div, jx, bnd, if_true, if_false, if_pos, if_neg, Int.toNat_natCast, Int.reduceToNat, Int.add_zero, Int.zero_add, Int.reduceAdd, Int.reduceSub, Int.reduceMul, Int.reduceNeg, Int.reduceLT, Int.reduceLE, jI_rem, sI_1, sI_2, sA_1, sA_2, sA_3, sL_1, sL_2, sL_3, upd_a, updL_a, vaup_a, Nat.reduceEqDiff, Ab_sz, Ab_tx, Ab_ns, Ab_sn, Ab_sx, Ab_ru, Ab_nl, Ab_lsh, Ab_ld, Ab_lm, Ab_lg, Ab_pd, Ab_px, Ab_py, Ab_pz, Ab_kn, Ab_kl, Ab_km]; exact h.km.1 k hk
      · simp (disch := omega) only [jI_lit, jL_lit, jI_n, jI_add, jI_sub, jI_mul, jI_neg, jL_add, jL_sub, jL_mul, jL_neg, jI_lt, jI_le, jI_eq, jL_lt, jL_le, jL_eq, jI_c, jI_64, jL_32, jI_div, jL_div, jx, bnd, if_true, if_false, if_pos, if_neg, Int.toNat_natCast, Int.reduceToNat, Int.add_zero, Int.zero_add, Int.reduceAdd, Int.reduceSub, Int.reduceMul, Int.reduceNeg, Int.reduceLT, Int.reduceLE, jI_rem, sI_1, sI_2, sA_1, sA_2, sA_3, sL_1, sL_2, sL_3, upd_a, updL_a, vaup_a, Nat.reduceEqDiff, Ab_sz, Ab_tx, Ab_ns, Ab_sn, Ab_sx, Ab_ru, Ab_nl, Ab_lsh, Ab_ld, Ab_lm, Ab_lg, Ab_pd, Ab_px, Ab_py, Ab_pz, Ab_kn, Ab_kl, Ab_km]; exact h.km.2.1 k hk
      · simp (disch := omega) only [jI_lit, jL_lit, jI_n, jI_add, jI_sub, jI_mul, jI_neg, jL_add, jL_sub, jL_mul, jL_neg, jI_lt, jI_le, jI_eq, jL_lt, jL_le, jL_eq, jI_c, jI_64, jL_32, jI_div, jL_div, jx, bnd, if_true, if_false, if_pos, if_neg, Int.toNat_natCast, Int.reduceToNat, Int.add_zero, Int.zero_add, Int.reduceAdd, Int.reduceSub, Int.reduceMul, Int.reduceNeg, Int.reduceLT, Int.reduceLE, jI_rem, sI_1, sI_2, sA_1, sA_2, sA_3, sL_1, sL_2, sL_3, upd_a, updL_a, vaup_a, Nat.reduceEqDiff, Ab_sz, Ab_tx, Ab_ns, Ab_sn, Ab_sx, Ab_ru, Ab_nl, Ab_lsh, Ab_ld, Ab_lm, Ab_lg, Ab_pd, Ab_px, Ab_py, Ab_pz, Ab_kn, Ab_kl, Ab_km]; exact h.km.2.2 k hk
  · intro j hj; simp (disch := omega) only [jI_lit, jL_lit, jI_n, jI_add, jI_sub, jI_mul, jI_neg, jL_add, jL_sub, jL_mul, jL_neg, jI_lt, jI_le, jI_eq, jL_lt, jL_le, jL_eq, jI_c, jI_64, jL_32, jI_div, jL_div, jx, bnd, if_true, if_false, if_pos, if_neg, Int.toNat_natCast, Int.reduceToNat, Int.add_zero, Int.zero_add, Int.reduceAdd, Int.reduceSub, Int.reduceMul, Int.reduceNeg, Int.reduceLT, Int.reduceLE, jI_rem, sI_1, sI_2, sA_1, sA_2, sA_3, sL_1, sL_2, sL_3, upd_a, updL_a, vaup_a, Nat.reduceEqDiff, Ab_sz, Ab_tx, Ab_ns, Ab_sn, Ab_sx, Ab_ru, Ab_nl, Ab_lsh, Ab_ld, Ab_lm, Ab_lg, Ab_pd, Ab_px, Ab_py, Ab_pz, Ab_kn, Ab_kl, Ab_km]
end CU
