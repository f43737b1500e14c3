theorem set_t9 : ∀ j : Nat, j < 9 → ∀ s : Nat, s < 2 ^ j → s &&& 2 ^ j = 0 := by decide +kernel
theorem m_firstL {s : Nat} {md : MS} (h0 : 0 < s) : ∀ (j n : Nat), j < 8 → s < 2 ^ (j + 1) → j < n → l_Md_firstOf_7 n (jI s) (jI ((2 ^ j : Nat) : Int)) md = some (jI (hbit s)) := by
  intro j
  induction j with
  | zero =>
    intro n _ h1 hn
    have : s = 1 := by omega
    subst this
    obtain ⟨n, rfl⟩ : ∃ m, n = m + 1 := ⟨n - 1, by omega⟩
    rw [l_Md_firstOf_7]; rfl
  | succ j ih =>
    intro n hj h1 hn
    obtain ⟨n, rfl⟩ : ∃ m, n = m + 1 := ⟨n - 1, by omega⟩
    have hp : 2 ^ (j + 1) = 2 * 2 ^ j := by rw [Nat.pow_succ]; omega
    have hp2 : 2 ^ j ≤ 2 ^ 7 := Nat.pow_le_pow_right (by omega) (by omega)
    have hp1 : 1 ≤ 2 ^ j := Nat.one_le_two_pow
    have ht := set_t (j + 1) (by omega) s h1
    rw [l_Md_firstOf_7, jI_and]
    by_cases c : s < 2 ^ (j + 1)
    · rw [ht.mpr c, if_pos (show jI ((0 : Nat) : Int) = 0 from rfl), bnd]
      have := ih n (by omega) c (by omega)
      rw [← this, sh_r (j + 1) (by omega)]
      congr 3; omega
    · have hne : s &&& 2 ^ (j + 1) ≠ 0 := fun h => c (ht.mp h)
      have hle : s &&& 2 ^ (j + 1) ≤ 2 ^ (j + 1) := Nat.and_le_right
      rw [if_neg (by rw [show (0 : Int32) = jI 0 from rfl, jI_eq (by omega) (by omega) (by omega) (by omega)]; omega)]
      congr 2
      have hl : s.log2 = j + 1 := by
        have h2 : s.log2 < j + 2 := (Nat.log2_lt (by omega)).mpr h1
        have h3 : ¬ s.log2 < j + 1 := fun h => c ((Nat.log2_lt (by omega)).mp h)
        omega
      unfold hbit; rw [hl]
theorem m_first {s c : Nat} {md : MS} (h0 : 0 < s) (hc : c ≤ 8) (h1 : s < 2 ^ c) (h3 : md.1 3 = jI c) : f_Md_firstOf md (jI s) = some (jI (hbit s)) := by
  unfold f_Md_firstOf
  rw [h3, sh_1 c (by omega), bnd]
  have h : l_Md_firstOf_7 fu (jI s) (jI ((2 ^ c : Nat) : Int)) md = some (jI (hbit s)) := by
    cases c with
    | zero => omega
    | succ c =>
      have hp : 2 ^ (c + 1) = 2 * 2 ^ c := by rw [Nat.pow_succ]; omega
      obtain ⟨n, hn⟩ := fu_k 20 (by omega)
      rw [hn, l_Md_firstOf_7, jI_and, set_t9 (c + 1) (by omega) s h1, if_pos (show jI ((0 : Nat) : Int) = 0 from rfl), bnd, sh_r (c + 1) (by omega), show 2 ^ (c + 1) / 2 = 2 ^ c from by omega]
      exact m_firstL h0 c (n + 19) (by omega) h1 (by omega)
  rw [h]; rfl
theorem m_los {c : Nat} {g : Nat → Nat} {md : MS} (hc : c ≤ 8) (h3 : md.1 3 = jI c) (hg : ∀ p, p < c → md.2.2 6 p = jL (g p)) (hgb : ∀ p, p < c → g p ≤ 120000) {s : Nat} (hs : s < 256) : f_Md_lengthOfSet md (jI s) = some (jL (bsum (fun k => g (c - 1 - k)) s c)) := by
  have key : ∀ (n p : Nat), p ≤ c → c - p < n → ∀ x : Nat, x + bsum (fun k => g (c - 1 - k)) s (c - p) = bsum (fun k => g (c - 1 - k)) s c → ∃ v, l_Md_lengthOfSet_5 n (jI s) (jL x) (jI p) md = some (jL (bsum (fun k => g (c - 1 - k)) s c), v) := by
    intro n
    induction n with
    | zero => intro p _ h; omega
    | succ n ih =>
      intro p hp hn x hx
      rw [l_Md_lengthOfSet_5, h3]
      by_cases e : p = c
      · subst e
        rw [Nat.sub_self] at hx
        simp only [bsum, Nat.add_zero] at hx
        rw [if_pos (Int32.le_refl _), hx]
        exact ⟨_, rfl⟩
      · have e1 : c - p = (c - p - 1) + 1 := by omega
        rw [e1] at hx
        simp only [bsum] at hx
        rw [show c - 1 - (c - p - 1) = p from by omega] at hx
        have hb := hgb p (by omega)
        rw [if_neg (by simp (disch := omega) only [jI_lit, jL_lit, jI_n, jI_add, jI_sub, jI_mul, jI_neg, jL_add, jL_sub, jL_mul, jL_neg, jI_lt, jI_le, jI_eq, jL_lt, jL_le, jL_eq, jI_c, jI_64, jL_32, jI_div, jL_div, jx, bnd, if_true, if_false, if_pos, if_neg, Int.toNat_natCast, Int.reduceToNat, Int.add_zero, Int.zero_add, Int.reduceAdd, Int.reduceSub, Int.reduceMul, Int.reduceNeg, Int.reduceLT, Int.reduceLE, jI_rem, sI_1, sI_2, sA_1, sA_2, sA_3, sL_1, sL_2, sL_3, upd_a, updL_a, vaup_a, Nat.reduceEqDiff, Ab_sz, Ab_tx, Ab_ns, Ab_sn, Ab_sx, Ab_ru, Ab_nl, Ab_lsh, Ab_ld, Ab_lm, Ab_lg, Ab_pd, Ab_px, Ab_py, Ab_pz, Ab_kn, Ab_kl, Ab_km]; omega), show jI (c : Int) - 1 - jI p = jI ((c - p - 1 : Nat) : Int) from by rw [show (1 : Int32) = jI 1 from rfl, jI_sub, jI_sub]; congr 1; omega, show jI (p : Int) + 1 = jI ((p + 1 : Nat) : Int) from jI_add _ 1]
        have ht := sh_t (c - p - 1) (by omega) s hs
        by_cases c1 : s.testBit (c - p - 1) = true
        · rw [if_pos (ht.mpr c1), jx (by omega) (by omega) (by omega), show (jI p).toNatClampNeg = p from by rw [jI_c (by omega) (by omega)]; omega, hg p (by omega)]
          simp only [if_true, bnd]
          rw [c1, if_pos rfl] at hx
          rw [show jL (x : Int) + jL (g p) = jL ((x + g p : Nat) : Int) from jL_add _ _]
          exact ih (p + 1) (by omega) (by omega) (x + g p) (by rw [show c - (p + 1) = c - p - 1 from by omega]; omega)
        · have c1' : s.testBit (c - p - 1) = false := by simpa using c1
          rw [if_neg (fun h => c1 (ht.mp h)), bnd, show jL (x : Int) + 0 = jL (x : Int) from by rw [show (0 : Int64) = jL 0 from rfl, jL_add, Int.add_zero]]
          rw [c1'] at hx
          exact ih (p + 1) (by omega) (by omega) x (by rw [show c - (p + 1) = c - p - 1 from by omega]; simpa using hx)
  obtain ⟨v, e⟩ := key fu 0 (by omega) (by unfold fu; omega) 0 (by simp)
  unfold f_Md_lengthOfSet
  have e' : l_Md_lengthOfSet_5 fu (jI s) 0 0 md = some (jL (bsum (fun k => g (c - 1 - k)) s c), v) := e
  rw [e']; rfl
def fr (m0 md : MS) : Prop := md.1 = m0.1 ∧ md.2.2 = m0.2.2 ∧ ∀ j, j ≠ 9 → j ≠ 11 → j ≠ 12 → j ≠ 13 → j ≠ 14 → j ≠ 15 → md.2.1 j = m0.2.1 j
theorem fr.sA {m0 md : MS} (h : fr m0 md) {k : Nat} (f : Nat → Int32) (hk : k = 9 ∨ k = 11 ∨ k = 12 ∨ k = 13 ∨ k = 14 ∨ k = 15) : fr m0 (sA md k f) := ⟨h.1, h.2.1, fun j a b c d e g => by
  rw [sA_2, if_neg (by omega)]; exact h.2.2 j a b c d e g⟩
def HM (kn c d : Nat) (sz g : Nat → Nat) (m0 : MS) : Prop := (kn ≤ 3) ∧ (c ≤ 8) ∧ (d < 41) ∧ (∀ k, k < kn → 1 ≤ sz k ∧ sz k ≤ 30000) ∧ (∀ p, p < c → g p ≤ 120000) ∧ (m0.1 3 = jI c) ∧ (m0.2.1 7 d = jI kn) ∧ (∀ j, j < kn → m0.2.2 5 (3 * d + j) = jL (sz j)) ∧ (∀ p, p < c → m0.2.2 6 p = jL (g p))
theorem HM.k3 {kn c d : Nat} {sz g : Nat → Nat} {m0 : MS} (h9 : HM kn c d sz g m0) : kn ≤ 3 := h9.1
theorem HM.c8 {kn c d : Nat} {sz g : Nat → Nat} {m0 : MS} (h9 : HM kn c d sz g m0) : c ≤ 8 := h9.2.1
theorem HM.d41 {kn c d : Nat} {sz g : Nat → Nat} {m0 : MS} (h9 : HM kn c d sz g m0) : d < 41 := h9.2.2.1
theorem HM.zb {kn c d : Nat} {sz g : Nat → Nat} {m0 : MS} (h9 : HM kn c d sz g m0) : ∀ k, k < kn → 1 ≤ sz k ∧ sz k ≤ 30000 := h9.2.2.2.1
theorem HM.gb {kn c d : Nat} {sz g : Nat → Nat} {m0 : MS} (h9 : HM kn c d sz g m0) : ∀ p, p < c → g p ≤ 120000 := h9.2.2.2.2.1
theorem HM.p3 {kn c d : Nat} {sz g : Nat → Nat} {m0 : MS} (h9 : HM kn c d sz g m0) : m0.1 3 = jI c := h9.2.2.2.2.2.1
theorem HM.kd {kn c d : Nat} {sz g : Nat → Nat} {m0 : MS} (h9 : HM kn c d sz g m0) : m0.2.1 7 d = jI kn := h9.2.2.2.2.2.2.1
theorem HM.kl {kn c d : Nat} {sz g : Nat → Nat} {m0 : MS} (h9 : HM kn c d sz g m0) : ∀ j, j < kn → m0.2.2 5 (3 * d + j) = jL (sz j) := h9.2.2.2.2.2.2.2.1
theorem HM.ln {kn c d : Nat} {sz g : Nat → Nat} {m0 : MS} (h9 : HM kn c d sz g m0) : ∀ p, p < c → m0.2.2 6 p = jL (g p) := h9.2.2.2.2.2.2.2.2
theorem HM.mk {kn c d : Nat} {sz g : Nat → Nat} {m0 : MS} (u_k3 : kn ≤ 3) (u_c8 : c ≤ 8) (u_d41 : d < 41) (u_zb : ∀ k, k < kn → 1 ≤ sz k ∧ sz k ≤ 30000) (u_gb : ∀ p, p < c → g p ≤ 120000) (u_p3 : m0.1 3 = jI c) (u_kd : m0.2.1 7 d = jI kn) (u_kl : ∀ j, j < kn → m0.2.2 5 (3 * d + j) = jL (sz j)) (u_ln : ∀ p, p < c → m0.2.2 6 p = jL (g p)) : HM kn c d sz g m0 := ⟨u_k3, u_c8, u_d41, u_zb, u_gb, u_p3, u_kd, u_kl, u_ln⟩
def bst (b : Bst) (x2 : Int32) (x3 : Int64) : Prop := (b.1 = 268435456 ∧ b.2 = [] ∧ x3 = jL (-1) ∧ x2 = jI 0) ∨ (∃ L : Nat, b.1 = 16 * L + b.2.length ∧ L ≤ 1000000 ∧ x3 = jL L ∧ x2 = jI b.2.length ∧ b.2.length ≤ 8)
def RB (kn : Nat) (m0 : MS) (left : Nat → Nat) (pre : Way) (rl : List Nat) (b : Bst) (x2 : Int32) (x3 : Int64) (md : MS) : Prop := (fr m0 md) ∧ (∀ j, j < kn → md.2.1 9 j = jI (left j)) ∧ (∀ j x, pre[j]? = some x → md.2.1 12 j = jI x.1 ∧ md.2.1 13 j = jI x.2) ∧ (∀ (j x : Nat), rl[j]? = some x → md.2.1 11 j = jI x) ∧ (bst b x2 x3) ∧ (∀ j x, b.2[j]? = some x → md.2.1 14 j = jI x.1 ∧ md.2.1 15 j = jI x.2)
theorem RB.f {kn : Nat} {m0 : MS} {left : Nat → Nat} {pre : Way} {rl : List Nat} {b : Bst} {x2 : Int32} {x3 : Int64} {md : MS} (h9 : RB kn m0 left pre rl b x2 x3 md) : fr m0 md := h9.1
theorem RB.le {kn : Nat} {m0 : MS} {left : Nat → Nat} {pre : Way} {rl : List Nat} {b : Bst} {x2 : Int32} {x3 : Int64} {md : MS} (h9 : RB kn m0 left pre rl b x2 x3 md) : ∀ j, j < kn → md.2.1 9 j = jI (left j) := h9.2.1
theorem RB.pk {kn : Nat} {m0 : MS} {left : Nat → Nat} {pre : Way} {rl : List Nat} {b : Bst} {x2 : Int32} {x3 : Int64} {md : MS} (h9 : RB kn m0 left pre rl b x2 x3 md) : ∀ j x, pre[j]? = some x → md.2.1 12 j = jI x.1 ∧ md.2.1 13 j = jI x.2 := h9.2.2.1
theorem RB.rr {kn : Nat} {m0 : MS} {left : Nat → Nat} {pre : Way} {rl : List Nat} {b : Bst} {x2 : Int32} {x3 : Int64} {md : MS} (h9 : RB kn m0 left pre rl b x2 x3 md) : ∀ (j x : Nat), rl[j]? = some x → md.2.1 11 j = jI x := h9.2.2.2.1
theorem RB.bs {kn : Nat} {m0 : MS} {left : Nat → Nat} {pre : Way} {rl : List Nat} {b : Bst} {x2 : Int32} {x3 : Int64} {md : MS} (h9 : RB kn m0 left pre rl b x2 x3 md) : bst b x2 x3 := h9.2.2.2.2.1
theorem RB.bk {kn : Nat} {m0 : MS} {left : Nat → Nat} {pre : Way} {rl : List Nat} {b : Bst} {x2 : Int32} {x3 : Int64} {md : MS} (h9 : RB kn m0 left pre rl b x2 x3 md) : ∀ j x, b.2[j]? = some x → md.2.1 14 j = jI x.1 ∧ md.2.1 15 j = jI x.2 := h9.2.2.2.2.2
theorem RB.mk {kn : Nat} {m0 : MS} {left : Nat → Nat} {pre : Way} {rl : List Nat} {b : Bst} {x2 : Int32} {x3 : Int64} {md : MS} (u_f : fr m0 md) (u_le : ∀ j, j < kn → md.2.1 9 j = jI (left j)) (u_pk : ∀ j x, pre[j]? = some x → md.2.1 12 j = jI x.1 ∧ md.2.1 13 j = jI x.2) (u_rr : ∀ (j x : Nat), rl[j]? = some x → md.2.1 11 j = jI x) (u_bs : bst b x2 x3) (u_bk : ∀ j x, b.2[j]? = some x → md.2.1 14 j = jI x.1 ∧ md.2.1 15 j = jI x.2) : RB kn m0 left pre rl b x2 x3 md := ⟨u_f, u_le, u_pk, u_rr, u_bs, u_bk⟩
def RV (n rest k w : Nat) (md : MS) : Prop := (md.2.1 11 n = jI rest) ∧ (md.2.1 12 n = jI k) ∧ (md.2.1 13 n = jI w)
theorem RV.rm {n rest k w : Nat} {md : MS} (h9 : RV n rest k w md) : md.2.1 11 n = jI rest := h9.1
theorem RV.wk {n rest k w : Nat} {md : MS} (h9 : RV n rest k w md) : md.2.1 12 n = jI k := h9.2.1
theorem RV.ws {n rest k w : Nat} {md : MS} (h9 : RV n rest k w md) : md.2.1 13 n = jI w := h9.2.2
theorem RV.mk {n rest k w : Nat} {md : MS} (u_rm : md.2.1 11 n = jI rest) (u_wk : md.2.1 12 n = jI k) (u_ws : md.2.1 13 n = jI w) : RV n rest k w md := ⟨u_rm, u_wk, u_ws⟩
def cbPop (n : Nat) (x1 : Int32) (x2 : Int32) (x3 : Int64) (x5 : Int32) (x6 : Int64) (md : MS) : Option (Int32 × Int64 × Int32 × Int64 × MS) := (if (x5 + (-1)) < 0 then l_Md_cutBest_47 n x1 x2 x3 (x5 + (-1)) x6 md else if ix (x5 + (-1)) 9 then if ix ((md.2.1 12) (x5 + (-1)).toNatClampNeg) 3 then if ix ((md.2.1 12) (x5 + (-1)).toNatClampNeg) 3 then (some (sA md 9 (upd (md.2.1 9) ((md.2.1 12) (x5 + (-1)).toNatClampNeg).toNatClampNeg (((md.2.1 9) ((md.2.1 12) (x5 + (-1)).toNatClampNeg).toNatClampNeg) + 1)))).bind fun md18 => if ix (x5 + (-1)) 9 then if ix ((3 * x1) + ((md18.2.1 12) (x5 + (-1)).toNatClampNeg)) 123 then (some (x6 - ((md18.2.2 5) ((3 * x1) + ((md18.2.1 12) (x5 + (-1)).toNatClampNeg)).toNatClampNeg)) : Option Int64).bind fun v21 => l_Md_cutBest_47 n x1 x2 x3 (x5 + (-1)) v21 md18 else none else none else none else none else none)
def cbKeep (n : Nat) (x1 : Int32) (x2 : Int32) (x3 : Int64) (x5 : Int32) (x6 : Int64) (v11 v23 q24 q27 q40 : Int32) (v38 : Int64) (md36 : MS) : Option (Int32 × Int64 × Int32 × Int64 × MS) := (some (x6 + v38) : Option Int64).bind fun v51 => (some (x5 + 1) : Option Int32).bind fun v52 => (l_Md_cutBest_322 fu x1 v52 v51 x5 x6 v11 v23 q24 q27 v38 q40 0 md36).bind fun q53 => l_Md_cutBest_47 n x1 v52 v51 x5 x6 q53.2
def cbPush (n : Nat) (x1 : Int32) (x2 : Int32) (x3 : Int64) (x5 : Int32) (x6 : Int64) (v11 v23 q27 : Int32) (v38 : Int64) (md36 : MS) : Option (Int32 × Int64 × Int32 × Int64 × MS) := if ix v11 3 then if ix v11 3 then (some (sA md36 9 (upd (md36.2.1 9) v11.toNatClampNeg (((md36.2.1 9) v11.toNatClampNeg) - 1)))).bind fun md63 => (some (x6 + v38) : Option Int64).bind fun v64 => if ix (x5 + 1) 9 then (some (sA md63 11 (upd (md63.2.1 11) (x5 + 1).toNatClampNeg (v23 &&& (q27 ^^^ (-1)))))).bind fun md66 => if ix (x5 + 1) 9 then (some (sA md66 12 (upd (md66.2.1 12) (x5 + 1).toNatClampNeg 0))).bind fun md68 => if ix (x5 + 1) 9 then if ix (x5 + 1) 9 then (some (sA md68 13 (upd (md68.2.1 13) (x5 + 1).toNatClampNeg (((md68.2.1 11) (x5 + 1).toNatClampNeg) + 1)))).bind fun md71 => l_Md_cutBest_47 n x1 x2 x3 (x5 + 1) v64 md71 else none else none else none else none else none else none
def cbDear (x2 : Int32) (x3 : Int64) (x5 : Int32) (x6 v38 : Int64) (q27 v23 : Int32) : Option Int32 := ((if x3 < 0 then some (0) else (if x3 < (x6 + v38) then some (1) else (if (x6 + v38) = x3 then (if q27 = v23 then (if (x5 + 1) < x2 then some (0) else some (1)) else some (1)) else some (0)))) : Option (Int32))
def cbTry (n : Nat) (x1 : Int32) (x2 : Int32) (x3 : Int64) (x5 : Int32) (x6 : Int64) (v11 v23 q24 q27 : Int32) (md : MS) : Option (Int32 × Int64 × Int32 × Int64 × MS) := if ix x5 9 then (some (sA md 13 (upd (md.2.1 13) x5.toNatClampNeg q27))).bind fun md36 => if ix ((3 * x1) + v11) 123 then (some ((md36.2.2 5) ((3 * x1) + v11).toNatClampNeg) : Option Int64).bind fun v38 => (cbDear x2 x3 x5 x6 v38 q27 v23).bind fun q40 => if ix v11 3 then (if ((md36.2.1 9) v11.toNatClampNeg) = 0 then l_Md_cutBest_47 n x1 x2 x3 x5 x6 md36 else (if q40 = 0 then (f_Md_lengthOfSet md36 q27).bind fun q48 => (if q48 ≤ v38 then (if q27 = v23 then cbKeep n x1 x2 x3 x5 x6 v11 v23 q24 q27 q40 v38 md36 else cbPush n x1 x2 x3 x5 x6 v11 v23 q27 v38 md36) else l_Md_cutBest_47 n x1 x2 x3 x5 x6 md36) else l_Md_cutBest_47 n x1 x2 x3 x5 x6 md36)) else none else none else none
def cbKind (n : Nat) (x1 : Int32) (x2 : Int32) (x3 : Int64) (x5 : Int32) (x6 : Int64) (v23 : Int32) (md : MS) : Option (Int32 × Int64 × Int32 × Int64 × MS) := if ix x5 9 then if ix x5 9 then (some (sA md 12 (upd (md.2.1 12) x5.toNatClampNeg (((md.2.1 12) x5.toNatClampNeg) + 1)))).bind fun md32 => if ix x5 9 then (some (sA md32 13 (upd (md32.2.1 13) x5.toNatClampNeg (v23 + 1)))).bind fun md34 => l_Md_cutBest_47 n x1 x2 x3 x5 x6 md34 else none else none else none
def cbNext (n : Nat) (x1 : Int32) (x2 : Int32) (x3 : Int64) (x5 : Int32) (x6 : Int64) (v11 : Int32) (md : MS) : Option (Int32 × Int64 × Int32 × Int64 × MS) := if ix x5 9 then (some ((md.2.1 11) x5.toNatClampNeg) : Option Int32).bind fun v23 => (f_Md_firstOf md v23).bind fun q24 => if ix x5 9 then ((if ((md.2.1 13) x5.toNatClampNeg) ≤ v23 then if ix x5 9 then some ((((md.2.1 13) x5.toNatClampNeg) - 1) &&& v23) else none else some (v23)) : Option (Int32)).bind fun q27 => (if (q27 &&& q24) = 0 then cbKind n x1 x2 x3 x5 x6 v23 md else cbTry n x1 x2 x3 x5 x6 v11 v23 q24 q27 md) else none else none
theorem cb_eq (n : Nat) (x1 : Int32) (x2 : Int32) (x3 : Int64) (x5 : Int32) (x6 : Int64) (md : MS) : l_Md_cutBest_47 (n + 1) x1 x2 x3 x5 x6 md = (if x5 < 0 then some (x2, x3, x5, x6, md) else if ix x5 9 then (some ((md.2.1 12) x5.toNatClampNeg) : Option Int32).bind fun v11 => if ix x1 41 then (if v11 = ((md.2.1 7) x1.toNatClampNeg) then cbPop n x1 x2 x3 x5 x6 md else cbNext n x1 x2 x3 x5 x6 v11 md) else none else none) := rfl
section MB
variable {kn c d : Nat} {sz g left : Nat → Nat} {m0 md : MS} {pre : Way} {rl : List Nat} {b : Bst} {x2 : Int32} {x3 : Int64} {lv u : Nat}
abbrev sS (c : Nat) (g : Nat → Nat) (s : Nat) : Nat := bsum (fun k => g (c - 1 - k)) s c
def nxt (rest w : Nat) : Nat := if rest < w then rest else (w - 1) &&& rest
theorem nxt_j {rest w : Nat} (hr : rest < 256) (hw : w ≤ 256) (hw1 : 1 ≤ w) : ((if jI w ≤ jI rest then some ((jI w - jI 1) &&& jI rest) else some (jI rest)) : Option Int32) = some (jI (nxt rest w)) := by
  unfold nxt
  by_cases e : rest < w
  · rw [if_pos e, if_neg (by simp (disch := omega) only [jI_lit, jL_lit, jI_n, jI_add, jI_sub, jI_mul, jI_neg, jL_add, jL_sub, jL_mul, jL_neg, jI_lt, jI_le, jI_eq, jL_lt, jL_le, jL_eq, jI_c, jI_64, jL_32, jI_div, jL_div, jx, bnd, if_true, if_false, if_pos, if_neg, Int.toNat_natCast, Int.reduceToNat, Int.add_zero, Int.zero_add, Int.reduceAdd, Int.reduceSub, Int.reduceMul, Int.reduceNeg, Int.reduceLT, Int.reduceLE, jI_rem, sI_1, sI_2, sA_1, sA_2, sA_3, sL_1, sL_2, sL_3, upd_a, updL_a, vaup_a, Nat.reduceEqDiff, Ab_sz, Ab_tx, Ab_ns, Ab_sn, Ab_sx, Ab_ru, Ab_nl, Ab_lsh, Ab_ld, Ab_lm, Ab_lg, Ab_pd, Ab_px, Ab_py, Ab_pz, Ab_kn, Ab_kl, Ab_km]; omega)]
  · rw [if_neg e, if_pos (by simp (disch := omega) only [jI_lit, jL_lit, jI_n, jI_add, jI_sub, jI_mul, jI_neg, jL_add, jL_sub, jL_mul, jL_neg, jI_lt, jI_le, jI_eq, jL_lt, jL_le, jL_eq, jI_c, jI_64, jL_32, jI_div, jL_div, jx, bnd, if_true, if_false, if_pos, if_neg, Int.toNat_natCast, Int.reduceToNat, Int.add_zero, Int.zero_add, Int.reduceAdd, Int.reduceSub, Int.reduceMul, Int.reduceNeg, Int.reduceLT, Int.reduceLE, jI_rem, sI_1, sI_2, sA_1, sA_2, sA_3, sL_1, sL_2, sL_3, upd_a, updL_a, vaup_a, Nat.reduceEqDiff, Ab_sz, Ab_tx, Ab_ns, Ab_sn, Ab_sx, Ab_ru, Ab_nl, Ab_lsh, Ab_ld, Ab_lm, Ab_lg, Ab_pd, Ab_px, Ab_py, Ab_pz, Ab_kn, Ab_kl, Ab_km]; omega), jI_sub, show (w : Int) - 1 = ((w - 1 : Nat) : Int) from by omega, jI_and]
theorem st_kind (H : HM kn c d sz g m0) (h : RB kn m0 left pre rl b x2 x3 md) {rest k w : Nat} (v : RV pre.length rest k w md) (hr0 : 0 < rest) (hrc : rest < 2 ^ c) (hl : pre.length < 9) (hk : k < kn) (hw : w ≤ 256) (hw1 : 1 ≤ w) (hn : nxt rest w < hbit rest) (u : Int) :
    ∃ m2, (∀ n, l_Md_cutBest_47 (n + 1) (jI d) x2 x3 (jI pre.length) (jL u) md = l_Md_cutBest_47 n (jI d) x2 x3 (jI pre.length) (jL u) m2) ∧ RB kn m0 left pre rl b x2 x3 m2 ∧ RV pre.length rest (k + 1) (rest + 1) m2 := by
  have hc8 : (2 : Nat) ^ c ≤ 2 ^ 8 := Nat.pow_le_pow_right (by omega) H.c8
  have h41 := H.d41
  have hk3 := H.k3
  have hkd : md.2.1 7 d = jI kn := by rw [h.f.2.2 7 (by omega) (by omega) (by omega) (by omega) (by omega) (by omega)]; exact H.kd
  have hp3 : md.1 3 = jI c := by rw [h.f.1]; exact H.p3
  have hrm := v.rm
  have hwk := v.wk
  have hws := v.ws
  have hfo := m_first hr0 H.c8 hrc hp3
  have hnx := nxt_j (show rest < 256 by omega) hw hw1
  have hh := hbit_le hr0
  have hz : nxt rest w &&& hbit rest = 0 := by
    have : ∃ j, j < 9 ∧ hbit rest = 2 ^ j := ⟨rest.log2, by
      have : rest.log2 < 9 := (Nat.log2_lt (by omega)).mpr (by omega)
      exact this, rfl⟩
    obtain ⟨j, hj, e⟩ := this
    rw [e] at hn ⊢
    exact set_t9 j hj _ hn
  refine ⟨sA (sA md 12 (upd (md.2.1 12) pre.length (jI ((k + 1 : Nat) : Int)))) 13 (upd (md.2.1 13) pre.length (jI ((rest + 1 : Nat) : Int))), ?_, ?_, ?_⟩
  · intro n
    have i1 : ix (jI (pre.length : Int)) 9 = true := jx (by omega) (by omega) (by omega)
    have i2 : ix (jI (d : Int)) 41 = true := jx (by omega) (by omega) (by omega)
    have e1 : (jI (pre.length : Int)).toNatClampNeg = pre.length := by rw [jI_c (by omega) (by omega)]; omega
    have e2 : (jI (d : Int)).toNatClampNeg = d := by rw [jI_c (by omega) (by omega)]; omega
    rw [cb_eq, if_neg (by simp (disch := omega) only [jI_lit, jL_lit, jI_n, jI_add, jI_sub, jI_mul, jI_neg, jL_add, jL_sub, jL_mul, jL_neg, jI_lt, jI_le, jI_eq, jL_lt, jL_le, jL_eq, jI_c, jI_64, jL_32, jI_div, jL_div, jx, bnd, if_true, if_false, if_pos, if_neg, Int.toNat_natCast, Int.reduceToNat, Int.add_zero, Int.zero_add, Int.reduceAdd, Int.reduceSub, Int.reduceMul, Int.reduceNeg, Int.reduceLT, Int.reduceLE, jI_rem, sI_1, sI_2, sA_1, sA_2, sA_3, sL_1, sL_2, sL_3, upd_a, updL_a, vaup_a, Nat.reduceEqDiff, Ab_sz, Ab_tx, Ab_ns, Ab_sn, Ab_sx, Ab_ru, Ab_nl, Ab_lsh, Ab_ld, Ab_lm, Ab_lg, Ab_pd, Ab_px, Ab_py, Ab_pz, Ab_kn, Ab_kl, Ab_km]; omega)]
    simp only [i1, i2, e1, e2, hkd, hwk, bnd, if_true]
    rw [if_neg (by rw [jI_eq (by omega) (by omega) (by omega) (by omega)]; omega)]
    unfold cbNext
    simp only [i1, e1, hrm, hws, hfo, bnd, if_true]
    rw [show (1 : Int32) = jI 1 from rfl, hnx, bnd, jI_and, hz, if_pos (show jI ((0 : Nat) : Int) = 0 from rfl)]
    unfold cbKind
    simp only [i1, e1, bnd, if_true, hwk]
    rw [show jI (k : Int) + 1 = jI ((k + 1 : Nat) : Int) from jI_add _ 1, show jI (rest : Int) + 1 = jI ((rest + 1 : Nat) : Int) from jI_add _ 1]
    rfl
  · refine ⟨(h.f.sA _ (by omega)).sA _ (by omega), ?_, ?_, ?_, h.bs, ?_⟩
    · intro j hj; simp (disch := omega) only [jI_lit, jL_lit, jI_n, jI_add, jI_sub, jI_mul, jI_neg, jL_add, jL_sub, jL_mul, jL_neg, jI_lt, jI_le, jI_eq, jL_lt, jL_le, jL_eq, jI_c, jI_64, jL_32, jI_div, jL_div, jx, bnd, if_true, if_false, if_pos, if_neg, Int.toNat_natCast, Int.reduceToNat, Int.add_zero, Int.zero_add, Int.reduceAdd, Int.reduceSub, Int.reduceMul, Int.reduceNeg, Int.reduceLT, Int.reduceLE, jI_rem, sI_1, sI_2, sA_1, sA_2, sA_3, sL_1, sL_2, sL_3, upd_a, updL_a, vaup_a, Nat.reduceEqDiff, Ab_sz, Ab_tx, Ab_ns, Ab_sn, Ab_sx, Ab_ru, Ab_nl, Ab_lsh, Ab_ld, Ab_lm, Ab_lg, Ab_pd, Ab_px, Ab_py, Ab_pz, Ab_kn, Ab_kl, Ab_km]; exact h.le j hj
    · intro j x hx
      have := (List.getElem?_eq_some_iff.mp hx).1
      simp (disch := omega) only [jI_lit, jL_lit, jI_n, jI_add, jI_sub, jI_mul, jI_neg, jL_add, jL_sub, jL_mul, jL_neg, jI_lt, jI_le, jI_eq, jL_lt, jL_le, jL_eq, jI_c, jI_64, jL_32, jI_div, jL_div, jx, bnd, if_true, if_false, if_pos, if_neg, Int.toNat_natCast, Int.reduceToNat, Int.add_zero, Int.zero_add, Int.reduceAdd, Int.reduceSub, Int.reduceMul, Int.reduceNeg, Int.reduceLT, Int.reduceLE, jI_rem, sI_1, sI_2, sA_1, sA_2, sA_3, sL_1, sL_2, sL_3, upd_a, updL_a, vaup_a, Nat.reduceEqDiff, Ab_sz, Ab_tx, Ab_ns, Ab_sn, Ab_sx, Ab_ru, Ab_nl, Ab_lsh, Ab_ld, Ab_lm, Ab_lg, Ab_pd, Ab_px, Ab_py, Ab_pz, Ab_kn, Ab_kl, Ab_km]; exact h.pk j x hx
    · intro j x hx; simp (disch := omega) only [jI_lit, jL_lit, jI_n, jI_add, jI_sub, jI_mul, jI_neg, jL_add, jL_sub, jL_mul, jL_neg, jI_lt, jI_le, jI_eq, jL_lt, jL_le, jL_eq, jI_c, jI_64, jL_32, jI_div, jL_div, jx, bnd, if_true, if_false, if_pos, if_neg, Int.toNat_natCast, Int.reduceToNat, Int.add_zero, Int.zero_add, Int.reduceAdd, Int.reduceSub, Int.reduceMul, Int.reduceNeg, Int.reduceLT, Int.reduceLE, jI_rem, sI_1, sI_2, sA_1, sA_2, sA_3, sL_1, sL_2, sL_3, upd_a, updL_a, vaup_a, Nat.reduceEqDiff, Ab_sz, Ab_tx, Ab_ns, Ab_sn, Ab_sx, Ab_ru, Ab_nl, Ab_lsh, Ab_ld, Ab_lm, Ab_lg, Ab_pd, Ab_px, Ab_py, Ab_pz, Ab_kn, Ab_kl, Ab_km]; exact h.rr j x hx
    · intro j x hx; simp (disch := omega) only [jI_lit, jL_lit, jI_n, jI_add, jI_sub, jI_mul, jI_neg, jL_add, jL_sub, jL_mul, jL_neg, jI_lt, jI_le, jI_eq, jL_lt, jL_le, jL_eq, jI_c, jI_64, jL_32, jI_div, jL_div, jx, bnd, if_true, if_false, if_pos, if_neg, Int.toNat_natCast, Int.reduceToNat, Int.add_zero, Int.zero_add, Int.reduceAdd, Int.reduceSub, Int.reduceMul, Int.reduceNeg, Int.reduceLT, Int.reduceLE, jI_rem, sI_1, sI_2, sA_1, sA_2, sA_3, sL_1, sL_2, sL_3, upd_a, updL_a, vaup_a, Nat.reduceEqDiff, Ab_sz, Ab_tx, Ab_ns, Ab_sn, Ab_sx, Ab_ru, Ab_nl, Ab_lsh, Ab_ld, Ab_lm, Ab_lg, Ab_pd, Ab_px, Ab_py, Ab_pz, Ab_kn, Ab_kl, Ab_km]; exact h.bk j x hx
  · exact ⟨by simp (disch := omega) only [jI_lit, jL_lit, jI_n, jI_add, jI_sub, jI_mul, jI_neg, jL_add, jL_sub, jL_mul, jL_neg, jI_lt, jI_le, jI_eq, jL_lt, jL_le, jL_eq, jI_c, jI_64, jL_32, jI_div, jL_div, jx, bnd, if_true, if_false, if_pos, if_neg, Int.toNat_natCast, Int.reduceToNat, Int.add_zero, Int.zero_add, Int.reduceAdd, Int.reduceSub, Int.reduceMul, Int.reduceNeg, Int.reduceLT, Int.reduceLE, jI_rem, sI_1, sI_2, sA_1, sA_2, sA_3, sL_1, sL_2, sL_3, upd_a, updL_a, vaup_a, Nat.reduceEqDiff, Ab_sz, Ab_tx, Ab_ns, Ab_sn, Ab_sx, Ab_ru, Ab_nl, Ab_lsh, Ab_ld, Ab_lm, Ab_lg, Ab_pd, Ab_px, Ab_py, Ab_pz, Ab_kn, Ab_kl, Ab_km]; exact hrm, by simp (disch := omega) only [jI_lit, jL_lit, jI_n, jI_add, jI_sub, jI_mul, jI_neg, jL_add, jL_sub, jL_mul, jL_neg, jI_lt, jI_le, jI_eq, jL_lt, jL_le, jL_eq, jI_c, jI_64, jL_32, jI_div, jL_div, jx, bnd, if_true, if_false, if_pos, if_neg, Int.toNat_natCast, Int.reduceToNat, Int.add_zero, Int.zero_add, Int.reduceAdd, Int.reduceSub, Int.reduceMul, Int.reduceNeg, Int.reduceLT, Int.reduceLE, jI_rem, sI_1, sI_2, sA_1, sA_2, sA_3, sL_1, sL_2, sL_3, upd_a, updL_a, vaup_a, Nat.reduceEqDiff, Ab_sz, Ab_tx, Ab_ns, Ab_sn, Ab_sx, Ab_ru, Ab_nl, Ab_lsh, Ab_ld, Ab_lm, Ab_lg, Ab_pd, Ab_px, Ab_py, Ab_pz, Ab_kn, Ab_kl, Ab_km], by simp (disch := omega) only [jI_lit, jL_lit, jI_n, jI_add, jI_sub, jI_mul, jI_neg, jL_add, jL_sub, jL_mul, jL_neg, jI_lt, jI_le, jI_eq, jL_lt, jL_le, jL_eq, jI_c, jI_64, jL_32, jI_div, jL_div, jx, bnd, if_true, if_false, if_pos, if_neg, Int.toNat_natCast, Int.reduceToNat, Int.add_zero, Int.zero_add, Int.reduceAdd, Int.reduceSub, Int.reduceMul, Int.reduceNeg, Int.reduceLT, Int.reduceLE, jI_rem, sI_1, sI_2, sA_1, sA_2, sA_3, sL_1, sL_2, sL_3, upd_a, updL_a, vaup_a, Nat.reduceEqDiff, Ab_sz, Ab_tx, Ab_ns, Ab_sn, Ab_sx, Ab_ru, Ab_nl, Ab_lsh, Ab_ld, Ab_lm, Ab_lg, Ab_pd, Ab_px, Ab_py, Ab_pz, Ab_kn, Ab_kl, Ab_km]⟩
theorem st_try (H : HM kn c d sz g m0) (h : RB kn m0 left pre rl b x2 x3 md) {rest k w : Nat} (v : RV pre.length rest k w md) (hr0 : 0 < rest) (hrc : rest < 2 ^ c) (hl : pre.length < 9) (hk : k < kn) (hw : w ≤ 256) (hw1 : 1 ≤ w) (hn : hbit rest ≤ nxt rest w) (u : Int) (n : Nat) :
    l_Md_cutBest_47 (n + 1) (jI d) x2 x3 (jI pre.length) (jL u) md = (cbDear x2 x3 (jI pre.length) (jL u) (jL (sz k)) (jI (nxt rest w)) (jI rest)).bind fun q40 => (if jI (left k) = 0 then l_Md_cutBest_47 n (jI d) x2 x3 (jI pre.length) (jL u) (sA md 13 (upd (md.2.1 13) pre.length (jI (nxt rest w)))) else if q40 = 0 then (if jL (sS c g (nxt rest w)) ≤ jL (sz k) then (if jI (nxt rest w) = jI rest then cbKeep n (jI d) x2 x3 (jI pre.length) (jL u) (jI k) (jI rest) (jI (hbit rest)) (jI (nxt rest w)) q40 (jL (sz k)) (sA md 13 (upd (md.2.1 13) pre.length (jI (nxt rest w)))) else cbPush n (jI d) x2 x3 (jI pre.length) (jL u) (jI k) (jI rest) (jI (nxt rest w)) (jL (sz k)) (sA md 13 (upd (md.2.1 13) pre.length (jI (nxt rest w))))) else l_Md_cutBest_47 n (jI d) x2 x3 (jI pre.length) (jL u) (sA md 13 (upd (md.2.1 13) pre.length (jI (nxt rest w))))) else l_Md_cutBest_47 n (jI d) x2 x3 (jI pre.length) (jL u) (sA md 13 (upd (md.2.1 13) pre.length (jI (nxt rest w))))) := by
  have hc8 : (2 : Nat) ^ c ≤ 2 ^ 8 := Nat.pow_le_pow_right (by omega) H.c8
  have h41 := H.d41
  have hk3 := H.k3
  have hkd : md.2.1 7 d = jI kn := by rw [h.f.2.2 7 (by omega) (by omega) (by omega) (by omega) (by omega) (by omega)]; exact H.kd
  have hp3 : md.1 3 = jI c := by rw [h.f.1]; exact H.p3
  have hrm := v.rm
  have hwk := v.wk
  have hws := v.ws
  have hfo := m_first hr0 H.c8 hrc hp3
  have hnx := nxt_j (show rest < 256 by omega) hw hw1
  have hh := hbit_le hr0
  have hhp := hbit_p rest
  have hnr : nxt rest w ≤ rest := by
    unfold nxt; split
    · exact Nat.le_refl _
    · exact Nat.and_le_right
  have hz : nxt rest w &&& hbit rest ≠ 0 := by
    have : ∃ j, j < 8 ∧ hbit rest = 2 ^ j := ⟨rest.log2, (Nat.log2_lt (by omega)).mpr (by omega), rfl⟩
    obtain ⟨j, hj, e⟩ := this
    have hlt := hbit_lt rest
    rw [e] at hn hlt ⊢
    intro h9
    have := (set_t j hj (nxt rest w) (by rw [Nat.pow_succ]; omega)).mp h9
    omega
  have hzle : nxt rest w &&& hbit rest ≤ hbit rest := Nat.and_le_right
  have i1 : ix (jI (pre.length : Int)) 9 = true := jx (by omega) (by omega) (by omega)
  have i2 : ix (jI (d : Int)) 41 = true := jx (by omega) (by omega) (by omega)
  have i3 : ix (jI (k : Int)) 3 = true := jx (by omega) (by omega) (by omega)
  have i4 : ix (3 * jI (d : Int) + jI k) 123 = true := by rw [show (3 : Int32) = jI 3 from rfl, jI_mul, jI_add]; exact jx (by omega) (by omega) (by omega)
  have e1 : (jI (pre.length : Int)).toNatClampNeg = pre.length := by rw [jI_c (by omega) (by omega)]; omega
  have e2 : (jI (d : Int)).toNatClampNeg = d := by rw [jI_c (by omega) (by omega)]; omega
  have e3 : (jI (k : Int)).toNatClampNeg = k := by rw [jI_c (by omega) (by omega)]; omega
  have e4 : (3 * jI (d : Int) + jI k).toNatClampNeg = 3 * d + k := by rw [show (3 : Int32) = jI 3 from rfl, jI_mul, jI_add, jI_c (by omega) (by omega)]; omega
  have hkl : (sA md 13 (upd (md.2.1 13) pre.length (jI (nxt rest w)))).2.2 5 (3 * d + k) = jL (sz k) := by rw [sA_3, h.f.2.1]; exact H.kl k hk
  have hle : (sA md 13 (upd (md.2.1 13) pre.length (jI (nxt rest w)))).2.1 9 k = jI (left k) := by rw [sA_2, if_neg (by omega)]; exact h.le k hk
  have hlos := m_los (md := sA md 13 (upd (md.2.1 13) pre.length (jI (nxt rest w)))) H.c8 (by rw [sA_1]; exact hp3) (fun p hp => by rw [sA_3, h.f.2.1]; exact H.ln p hp) H.gb (show nxt rest w < 256 by omega)
  rw [cb_eq, if_neg (by simp (disch := omega) only [jI_lit, jL_lit, jI_n, jI_add, jI_sub, jI_mul, jI_neg, jL_add, jL_sub, jL_mul, jL_neg, jI_lt, jI_le, jI_eq, jL_lt, jL_le, jL_eq, jI_c, jI_64, jL_32, jI_div, jL_div, jx, bnd, if_true, if_false, if_pos, if_neg, Int.toNat_natCast, Int.reduceToNat, Int.add_zero, Int.zero_add, Int.reduceAdd, Int.reduceSub, Int.reduceMul, Int.reduceNeg, Int.reduceLT, Int.reduceLE, jI_rem, sI_1, sI_2, sA_1, sA_2, sA_3, sL_1, sL_2, sL_3, upd_a, updL_a, vaup_a, Nat.reduceEqDiff, Ab_sz, Ab_tx, Ab_ns, Ab_sn, Ab_sx, Ab_ru, Ab_nl, Ab_lsh, Ab_ld, Ab_lm, Ab_lg, Ab_pd, Ab_px, Ab_py, Ab_pz, Ab_kn, Ab_kl, Ab_km]; omega)]
  simp only [i1, i2, e1, e2, hkd, hwk, bnd, if_true]
  rw [if_neg (by rw [jI_eq (by omega) (by omega) (by omega) (by omega)]; omega)]
  unfold cbNext
  simp only [i1, e1, hrm, hws, hfo, bnd, if_true]
  rw [show (1 : Int32) = jI 1 from rfl, hnx, bnd, jI_and, if_neg (by rw [show (0 : Int32) = jI 0 from rfl, jI_eq (by omega) (by omega) (by omega) (by omega)]; omega)]
  unfold cbTry
  simp only [i1, e1, i4, e4, i3, e3, bnd, if_true, hkl, hle, hlos]
end MB
section MB
variable {kn c d : Nat} {sz g left : Nat → Nat} {m0 md : MS} {pre : Way} {rl : List Nat} {b : Bst} {x2 : Int32} {x3 : Int64}
theorem m_copyL {W : Way} (hl : W.length ≤ 9) (hl1 : 1 ≤ W.length) (y1 y2 : Int32) (y3 : Int64) (y6 : Int64) (y8 y9 y10 y11 : Int32) (y12 : Int64) (y14 : Int32) : ∀ (n j : Nat) (md : MS), j ≤ W.length → W.length - j < n → (∀ e x, W[e]? = some x → md.2.1 12 e = jI x.1 ∧ md.2.1 13 e = jI x.2) → (∀ e x, e < j → W[e]? = some x → md.2.1 14 e = jI x.1 ∧ md.2.1 15 e = jI x.2) →
    ∃ v m2, l_Md_cutBest_322 n y1 y2 y3 (jI ((W.length : Int) - 1)) y6 y8 y9 y10 y11 y12 y14 (jI j) md = some (v, m2) ∧ m2.1 = md.1 ∧ m2.2.2 = md.2.2 ∧ (∀ k, k ≠ 14 → k ≠ 15 → m2.2.1 k = md.2.1 k) ∧ (∀ e x, W[e]? = some x → m2.2.1 14 e = jI x.1 ∧ m2.2.1 15 e = jI x.2) := by
  intro n
  induction n with
  | zero => intro j md _ h; omega
  | succ n ih =>
    intro j md hj hn hp hw
    rw [l_Md_cutBest_322]
    by_cases e : j = W.length
    · rw [if_pos (by simp (disch := omega) only [jI_lit, jL_lit, jI_n, jI_add, jI_sub, jI_mul, jI_neg, jL_add, jL_sub, jL_mul, jL_neg, jI_lt, jI_le, jI_eq, jL_lt, jL_le, jL_eq, jI_c, jI_64, jL_32, jI_div, jL_div, jx, bnd, if_true, if_false, if_pos, if_neg, Int.toNat_natCast, Int.reduceToNat, Int.add_zero, Int.zero_add, Int.reduceAdd, Int.reduceSub, Int.reduceMul, Int.reduceNeg, Int.reduceLT, Int.reduceLE, jI_rem, sI_1, sI_2, sA_1, sA_2, sA_3, sL_1, sL_2, sL_3, upd_a, updL_a, vaup_a, Nat.reduceEqDiff, Ab_sz, Ab_tx, Ab_ns, Ab_sn, Ab_sx, Ab_ru, Ab_nl, Ab_lsh, Ab_ld, Ab_lm, Ab_lg, Ab_pd, Ab_px, Ab_py, Ab_pz, Ab_kn, Ab_kl, Ab_km]; omega)]
      subst e
      exact ⟨_, md, rfl, rfl, rfl, fun _ _ _ => rfl, fun e x h => hw e x (List.getElem?_eq_some_iff.mp h).1 h⟩
    · have hj' : j < W.length := by omega
      have e1 := List.getElem?_eq_getElem hj'
      obtain ⟨p1, p2⟩ := hp j _ e1
      obtain ⟨v, m2, e2, g1, g2, g3, g4⟩ := ih (j + 1) (sA (sA md 14 (upd (md.2.1 14) j (jI (W[j]).1))) 15 (upd (md.2.1 15) j (jI (W[j]).2))) (by omega) (by omega) (fun e x h => by simp (disch := omega) only [jI_lit, jL_lit, jI_n, jI_add, jI_sub, jI_mul, jI_neg, jL_add, jL_sub, jL_mul, jL_neg, jI_lt, jI_le, jI_eq, jL_lt, jL_le, jL_eq, jI_c, jI_64, jL_32, jI_div, jL_div, jx, bnd, if_true, if_false, if_pos, if_neg, Int.toNat_natCast, Int.reduceToNat, Int.add_zero, Int.zero_add, Int.reduceAdd, Int.reduceSub, Int.reduceMul, Int.reduceNeg, Int.reduceLT, Int.reduceLE, jI_rem, sI_1, sI_2, sA_1, sA_2, sA_3, sL_1, sL_2, sL_3, upd_a, updL_a, vaup_a, Nat.reduceEqDiff, Ab_sz, Ab_tx, Ab_ns, Ab_sn, Ab_sx, Ab_ru, Ab_nl, Ab_lsh, Ab_ld, Ab_lm, Ab_lg, Ab_pd, Ab_px, Ab_py, Ab_pz, Ab_kn, Ab_kl, Ab_km]; exact hp e x h) (fun e x he h => by
        by_cases c : e = j
        · subst c
          rw [e1] at h
          obtain rfl := Option.some.inj h
          simp (disch := omega) only [jI_lit, jL_lit, jI_n, jI_add, jI_sub, jI_mul, jI_neg, jL_add, jL_sub, jL_mul, jL_neg, jI_lt, jI_le, jI_eq, jL_lt, jL_le, jL_eq, jI_c, jI_64, jL_32, jI_div, jL_div, jx, bnd, if_true, if_false, if_pos, if_neg, Int.toNat_natCast, Int.reduceToNat, Int.add_zero, Int.zero_add, Int.reduceAdd, Int.reduceSub, Int.reduceMul, Int.reduceNeg, Int.reduceLT, Int.reduceLE, jI_rem, sI_1, sI_2, sA_1, sA_2, sA_3, sL_1, sL_2, sL_3, upd_a, updL_a, vaup_a, Nat.reduceEqDiff, Ab_sz, Ab_tx, Ab_ns, Ab_sn, Ab_sx, Ab_ru, Ab_nl, Ab_lsh, Ab_ld, Ab_lm, Ab_lg, Ab_pd, Ab_px, Ab_py, Ab_pz, Ab_kn, Ab_kl, Ab_km]; simp
        · simp (disch := omega) only [jI_lit, jL_lit, jI_n, jI_add, jI_sub, jI_mul, jI_neg, jL_add, jL_sub, jL_mul, jL_neg, jI_lt, jI_le, jI_eq, jL_lt, jL_le, jL_eq, jI_c, jI_64, jL_32, jI_div, jL_div, jx, bnd, if_true, if_false, if_pos, if_neg, Int.toNat_natCast, Int.reduceToNat, Int.add_zero, Int.zero_add, Int.reduceAdd, Int.reduceSub, Int.reduceMul, Int.reduceNeg, Int.reduceLT, Int.reduceLE, jI_rem, sI_1, sI_2, sA_1, sA_2, sA_3, sL_1, sL_2, sL_3, upd_a, updL_a, vaup_a, Nat.reduceEqDiff, Ab_sz, Ab_tx, Ab_ns, Ab_sn, Ab_sx, Ab_ru, Ab_nl, Ab_lsh, Ab_ld, Ab_lm, Ab_lg, Ab_pd, Ab_px, Ab_py, Ab_pz, Ab_kn, Ab_kl, Ab_km]; exact hw e x (by omega) h)
      refine ⟨v, m2, ?_, g1, g2, fun k h1 h2 => ?_, g4⟩
      · rw [if_neg (by simp (disch := omega) only [jI_lit, jL_lit, jI_n, jI_add, jI_sub, jI_mul, jI_neg, jL_add, jL_sub, jL_mul, jL_neg, jI_lt, jI_le, jI_eq, jL_lt, jL_le, jL_eq, jI_c, jI_64, jL_32, jI_div, jL_div, jx, bnd, if_true, if_false, if_pos, if_neg, Int.toNat_natCast, Int.reduceToNat, Int.add_zero, Int.zero_add, Int.reduceAdd, Int.reduceSub, Int.reduceMul, Int.reduceNeg, Int.reduceLT, Int.reduceLE, jI_rem, sI_1, sI_2, sA_1, sA_2, sA_3, sL_1, sL_2, sL_3, upd_a, updL_a, vaup_a, Nat.reduceEqDiff, Ab_sz, Ab_tx, Ab_ns, Ab_sn, Ab_sx, Ab_ru, Ab_nl, Ab_lsh, Ab_ld, Ab_lm, Ab_lg, Ab_pd, Ab_px, Ab_py, Ab_pz, Ab_kn, Ab_kl, Ab_km]; omega)]
        simp (disch := omega) only [jI_lit, jL_lit, jI_n, jI_add, jI_sub, jI_mul, jI_neg, jL_add, jL_sub, jL_mul, jL_neg, jI_lt, jI_le, jI_eq, jL_lt, jL_le, jL_eq, jI_c, jI_64, jL_32, jI_div, jL_div, jx, bnd, if_true, if_false, if_pos, if_neg, Int.toNat_natCast, Int.reduceToNat, Int.add_zero, Int.zero_add, Int.reduceAdd, Int.reduceSub, Int.reduceMul, Int.reduceNeg, Int.reduceLT, Int.reduceLE, jI_rem, sI_1, sI_2, sA_1, sA_2, sA_3, sL_1, sL_2, sL_3, upd_a, updL_a, vaup_a, Nat.reduceEqDiff, Ab_sz, Ab_tx, Ab_ns, Ab_sn, Ab_sx, Ab_ru, Ab_nl, Ab_lsh, Ab_ld, Ab_lm, Ab_lg, Ab_pd, Ab_px, Ab_py, Ab_pz, Ab_kn, Ab_kl, Ab_km, p1, p2]
        exact e2
      · rw [g3 k h1 h2]; simp (disch := omega) only [jI_lit, jL_lit, jI_n, jI_add, jI_sub, jI_mul, jI_neg, jL_add, jL_sub, jL_mul, jL_neg, jI_lt, jI_le, jI_eq, jL_lt, jL_le, jL_eq, jI_c, jI_64, jL_32, jI_div, jL_div, jx, bnd, if_true, if_false, if_pos, if_neg, Int.toNat_natCast, Int.reduceToNat, Int.add_zero, Int.zero_add, Int.reduceAdd, Int.reduceSub, Int.reduceMul, Int.reduceNeg, Int.reduceLT, Int.reduceLE, jI_rem, sI_1, sI_2, sA_1, sA_2, sA_3, sL_1, sL_2, sL_3, upd_a, updL_a, vaup_a, Nat.reduceEqDiff, Ab_sz, Ab_tx, Ab_ns, Ab_sn, Ab_sx, Ab_ru, Ab_nl, Ab_lsh, Ab_ld, Ab_lm, Ab_lg, Ab_pd, Ab_px, Ab_py, Ab_pz, Ab_kn, Ab_kl, Ab_km]
theorem RB.top (h : RB kn m0 left pre rl b x2 x3 md) {rest k w : Nat} (v : RV pre.length rest k w md) (row : Nat) : RB kn m0 left pre rl b x2 x3 (sA md 13 (upd (md.2.1 13) pre.length (jI row))) ∧ RV pre.length rest k row (sA md 13 (upd (md.2.1 13) pre.length (jI row))) := by
  refine ⟨⟨h.f.sA _ (by omega), ?_, ?_, ?_, h.bs, ?_⟩, ⟨by simp (disch := omega) only [jI_lit, jL_lit, jI_n, jI_add, jI_sub, jI_mul, jI_neg, jL_add, jL_sub, jL_mul, jL_neg, jI_lt, jI_le, jI_eq, jL_lt, jL_le, jL_eq, jI_c, jI_64, jL_32, jI_div, jL_div, jx, bnd, if_true, if_false, if_pos, if_neg, Int.toNat_natCast, Int.reduceToNat, Int.add_zero, Int.zero_add, Int.reduceAdd, Int.reduceSub, Int.reduceMul, Int.reduceNeg, Int.reduceLT, Int.reduceLE, jI_rem, sI_1, sI_2, sA_1, sA_2, sA_3, sL_1, sL_2, sL_3, upd_a, updL_a, vaup_a, Nat.reduceEqDiff, Ab_sz, Ab_tx, Ab_ns, Ab_sn, Ab_sx, Ab_ru, Ab_nl, Ab_lsh, Ab_ld, Ab_lm, Ab_lg, Ab_pd, Ab_px, Ab_py, Ab_pz, Ab_kn, Ab_kl, Ab_km]; exact v.rm, by simp (disch := omega) only [jI_lit, jL_lit, jI_n, jI_add, jI_sub, jI_mul, jI_neg, jL_add, jL_sub, jL_mul, jL_neg, jI_lt, jI_le, jI_eq, jL_lt, jL_le, jL_eq, jI_c, jI_64, jL_32, jI_div, jL_div, jx, bnd, if_true, if_false, if_pos, if_neg, Int.toNat_natCast, Int.reduceToNat, Int.add_zero, Int.zero_add, Int.reduceAdd, Int.reduceSub, Int.reduceMul, Int.reduceNeg, Int.reduceLT, Int.reduceLE, jI_rem, sI_1, sI_2, sA_1, sA_2, sA_3, sL_1, sL_2, sL_3, upd_a, updL_a, vaup_a, Nat.reduceEqDiff, Ab_sz, Ab_tx, Ab_ns, Ab_sn, Ab_sx, Ab_ru, Ab_nl, Ab_lsh, Ab_ld, Ab_lm, Ab_lg, Ab_pd, Ab_px, Ab_py, Ab_pz, Ab_kn, Ab_kl, Ab_km]; exact v.wk, by simp (disch := omega) only [jI_lit, jL_lit, jI_n, jI_add, jI_sub, jI_mul, jI_neg, jL_add, jL_sub, jL_mul, jL_neg, jI_lt, jI_le, jI_eq, jL_lt, jL_le, jL_eq, jI_c, jI_64, jL_32, jI_div, jL_div, jx, bnd, if_true, if_false, if_pos, if_neg, Int.toNat_natCast, Int.reduceToNat, Int.add_zero, Int.zero_add, Int.reduceAdd, Int.reduceSub, Int.reduceMul, Int.reduceNeg, Int.reduceLT, Int.reduceLE, jI_rem, sI_1, sI_2, sA_1, sA_2, sA_3, sL_1, sL_2, sL_3, upd_a, updL_a, vaup_a, Nat.reduceEqDiff, Ab_sz, Ab_tx, Ab_ns, Ab_sn, Ab_sx, Ab_ru, Ab_nl, Ab_lsh, Ab_ld, Ab_lm, Ab_lg, Ab_pd, Ab_px, Ab_py, Ab_pz, Ab_kn, Ab_kl, Ab_km]⟩⟩
  · intro j hj; simp (disch := omega) only [jI_lit, jL_lit, jI_n, jI_add, jI_sub, jI_mul, jI_neg, jL_add, jL_sub, jL_mul, jL_neg, jI_lt, jI_le, jI_eq, jL_lt, jL_le, jL_eq, jI_c, jI_64, jL_32, jI_div, jL_div, jx, bnd, if_true, if_false, if_pos, if_neg, Int.toNat_natCast, Int.reduceToNat, Int.add_zero, Int.zero_add, Int.reduceAdd, Int.reduceSub, Int.reduceMul, Int.reduceNeg, Int.reduceLT, Int.reduceLE, jI_rem, sI_1, sI_2, sA_1, sA_2, sA_3, sL_1, sL_2, sL_3, upd_a, updL_a, vaup_a, Nat.reduceEqDiff, Ab_sz, Ab_tx, Ab_ns, Ab_sn, Ab_sx, Ab_ru, Ab_nl, Ab_lsh, Ab_ld, Ab_lm, Ab_lg, Ab_pd, Ab_px, Ab_py, Ab_pz, Ab_kn, Ab_kl, Ab_km]; exact h.le j hj
  · intro j x hx
    have := (List.getElem?_eq_some_iff.mp hx).1
    simp (disch := omega) only [jI_lit, jL_lit, jI_n, jI_add, jI_sub, jI_mul, jI_neg, jL_add, jL_sub, jL_mul, jL_neg, jI_lt, jI_le, jI_eq, jL_lt, jL_le, jL_eq, jI_c, jI_64, jL_32, jI_div, jL_div, jx, bnd, if_true, if_false, if_pos, if_neg, Int.toNat_natCast, Int.reduceToNat, Int.add_zero, Int.zero_add, Int.reduceAdd, Int.reduceSub, Int.reduceMul, Int.reduceNeg, Int.reduceLT, Int.reduceLE, jI_rem, sI_1, sI_2, sA_1, sA_2, sA_3, sL_1, sL_2, sL_3, upd_a, updL_a, vaup_a, Nat.reduceEqDiff, Ab_sz, Ab_tx, Ab_ns, Ab_sn, Ab_sx, Ab_ru, Ab_nl, Ab_lsh, Ab_ld, Ab_lm, Ab_lg, Ab_pd, Ab_px, Ab_py, Ab_pz, Ab_kn, Ab_kl, Ab_km]; exact h.pk j x hx
  · intro j x hx; simp (disch := omega) only [jI_lit, jL_lit, jI_n, jI_add, jI_sub, jI_mul, jI_neg, jL_add, jL_sub, jL_mul, jL_neg, jI_lt, jI_le, jI_eq, jL_lt, jL_le, jL_eq, jI_c, jI_64, jL_32, jI_div, jL_div, jx, bnd, if_true, if_false, if_pos, if_neg, Int.toNat_natCast, Int.reduceToNat, Int.add_zero, Int.zero_add, Int.reduceAdd, Int.reduceSub, Int.reduceMul, Int.reduceNeg, Int.reduceLT, Int.reduceLE, jI_rem, sI_1, sI_2, sA_1, sA_2, sA_3, sL_1, sL_2, sL_3, upd_a, updL_a, vaup_a, Nat.reduceEqDiff, Ab_sz, Ab_tx, Ab_ns, Ab_sn, Ab_sx, Ab_ru, Ab_nl, Ab_lsh, Ab_ld, Ab_lm, Ab_lg, Ab_pd, Ab_px, Ab_py, Ab_pz, Ab_kn, Ab_kl, Ab_km]; exact h.rr j x hx
  · intro j x hx; simp (disch := omega) only [jI_lit, jL_lit, jI_n, jI_add, jI_sub, jI_mul, jI_neg, jL_add, jL_sub, jL_mul, jL_neg, jI_lt, jI_le, jI_eq, jL_lt, jL_le, jL_eq, jI_c, jI_64, jL_32, jI_div, jL_div, jx, bnd, if_true, if_false, if_pos, if_neg, Int.toNat_natCast, Int.reduceToNat, Int.add_zero, Int.zero_add, Int.reduceAdd, Int.reduceSub, Int.reduceMul, Int.reduceNeg, Int.reduceLT, Int.reduceLE, jI_rem, sI_1, sI_2, sA_1, sA_2, sA_3, sL_1, sL_2, sL_3, upd_a, updL_a, vaup_a, Nat.reduceEqDiff, Ab_sz, Ab_tx, Ab_ns, Ab_sn, Ab_sx, Ab_ru, Ab_nl, Ab_lsh, Ab_ld, Ab_lm, Ab_lg, Ab_pd, Ab_px, Ab_py, Ab_pz, Ab_kn, Ab_kl, Ab_km]; exact h.bk j x hx
theorem st_keep (h : RB kn m0 left pre rl b x2 x3 md) {rest k row : Nat} (v : RV pre.length rest k row md) (hl : pre.length + 1 ≤ 8) (u : Nat) (hu : u + sz k ≤ 1000000) (y q q40 : Int32) :
    ∃ x2' x3' m2, (∀ n, cbKeep n (jI d) x2 x3 (jI pre.length) (jL u) (jI k) (jI rest) y q q40 (jL (sz k)) md = l_Md_cutBest_47 n (jI d) x2' x3' (jI pre.length) (jL u) m2) ∧ RB kn m0 left pre rl (16 * u + pre.length + (16 * sz k + 1), pre ++ [(k, row)]) x2' x3' m2 ∧ RV pre.length rest k row m2 := by
  have hlen : (pre ++ [(k, row)]).length = pre.length + 1 := by simp
  obtain ⟨v2, m2, e, g1, g2, g3, g4⟩ := m_copyL (W := pre ++ [(k, row)]) (by omega) (by omega) (jI d) (jI ((pre ++ [(k, row)]).length : Int)) (jL ((u + sz k : Nat) : Int)) (jL u) (jI k) (jI rest) y q (jL (sz k)) q40 fu 0 md (by omega) (by unfold fu; omega) (fun e x hx => by
    rcases get_app pre (k, row) e x hx with ⟨c1, e1⟩ | ⟨c1, e1⟩
    · exact h.pk e x e1
    · subst e1; subst c1; exact ⟨v.wk, v.ws⟩) (fun e x he => by omega)
  refine ⟨jI ((pre ++ [(k, row)]).length : Int), jL ((u + sz k : Nat) : Int), m2, ?_, ?_, ?_⟩
  · intro n
    unfold cbKeep
    rw [show jL (u : Int) + jL (sz k) = jL ((u + sz k : Nat) : Int) from jL_add _ _, show jI (pre.length : Int) + 1 = jI ((pre ++ [(k, row)]).length : Int) from by rw [hlen]; exact jI_add _ 1]
    simp only [bnd]
    rw [show ((pre ++ [(k, row)]).length : Int) - 1 = (pre.length : Int) from by rw [hlen]; omega] at e
    have e' : l_Md_cutBest_322 fu (jI d) (jI ((pre ++ [(k, row)]).length : Int)) (jL ((u + sz k : Nat) : Int)) (jI pre.length) (jL u) (jI k) (jI rest) y q (jL (sz k)) q40 0 md = some (v2, m2) := e
    rw [e']; rfl
  · refine ⟨⟨g1.trans h.f.1, g2.trans h.f.2.1, fun j a1 a2 a3 a4 a5 a6 => (g3 j a5 a6).trans (h.f.2.2 j a1 a2 a3 a4 a5 a6)⟩, ?_, ?_, ?_, Or.inr ⟨u + sz k, ?_, hu, rfl, rfl, by simp only; omega⟩, g4⟩
    · intro j hj; rw [g3 9 (by omega) (by omega)]; exact h.le j hj
    · intro j x hx; rw [g3 12 (by omega) (by omega), g3 13 (by omega) (by omega)]; exact h.pk j x hx
    · intro j x hx; rw [g3 11 (by omega) (by omega)]; exact h.rr j x hx
    · simp only; rw [hlen]; omega
  · exact ⟨by rw [g3 11 (by omega) (by omega)]; exact v.rm, by rw [g3 12 (by omega) (by omega)]; exact v.wk, by rw [g3 13 (by omega) (by omega)]; exact v.ws⟩
theorem st_push (h : RB kn m0 left pre rl b x2 x3 md) {rest k row : Nat} (hrl : rl.length = pre.length) (v : RV pre.length rest k row md) (hk3 : kn ≤ 3) (hk : k < kn) (hlk : left k ≠ 0) (hlb : left k ≤ 20) (hl : pre.length + 1 ≤ 8) (hr : rest < 256) (hs : row &&& rest = row) (hle : row ≤ rest) (u : Nat) :
    ∃ m2, (∀ n, cbPush n (jI d) x2 x3 (jI pre.length) (jL u) (jI k) (jI rest) (jI row) (jL (sz k)) md = l_Md_cutBest_47 n (jI d) x2 x3 (jI (pre ++ [(k, row)]).length) (jL ((u + sz k : Nat) : Int)) m2) ∧ RB kn m0 (decK left k) (pre ++ [(k, row)]) (rl ++ [rest]) b x2 x3 m2 ∧ RV (pre ++ [(k, row)]).length (rest - row) 0 (rest - row + 1) m2 := by
  have hlen : (pre ++ [(k, row)]).length = pre.length + 1 := by simp
  have hneg := set_n rest hr row (by omega) hs
  refine ⟨sA (sA (sA (sA md 9 (upd (md.2.1 9) k (jI ((left k - 1 : Nat) : Int)))) 11 (upd (md.2.1 11) (pre.length + 1) (jI ((rest - row : Nat) : Int)))) 12 (upd (md.2.1 12) (pre.length + 1) (jI 0))) 13 (upd (md.2.1 13) (pre.length + 1) (jI ((rest - row + 1 : Nat) : Int))), ?_, ?_, ?_⟩
  · intro n
    unfold cbPush
    rw [hlen]
    have i3 : ix (jI (k : Int)) 3 = true := jx (by omega) (by omega) (by omega)
    have e3 : (jI (k : Int)).toNatClampNeg = k := by rw [jI_c (by omega) (by omega)]; omega
    have ep : jI (pre.length : Int) + 1 = jI ((pre.length + 1 : Nat) : Int) := jI_add _ 1
    have i5 : ix (jI ((pre.length + 1 : Nat) : Int)) 9 = true := jx (by omega) (by omega) (by omega)
    have e5 : (jI ((pre.length + 1 : Nat) : Int)).toNatClampNeg = pre.length + 1 := by rw [jI_c (by omega) (by omega)]; omega
    have e6 : jI (left k : Int) - 1 = jI ((left k - 1 : Nat) : Int) := by rw [show (1 : Int32) = jI 1 from rfl, jI_sub]; congr 1; omega
    have e7 : jI ((rest - row : Nat) : Int) + 1 = jI ((rest - row + 1 : Nat) : Int) := jI_add _ 1
    have e8 : jL (u : Int) + jL (sz k) = jL ((u + sz k : Nat) : Int) := jL_add _ _
    have e9 : jI (rest : Int) &&& (jI row ^^^ -1) = jI ((rest - row : Nat) : Int) := hneg
    simp only [i3, e3, ep, i5, e5, h.le k hk, e6, e8, e9, bnd, if_true, sA_2, upd_a, e7, Nat.reduceEqDiff, if_false]
    rfl
  · refine ⟨(((h.f.sA _ (by omega)).sA _ (by omega)).sA _ (by omega)).sA _ (by omega), ?_, ?_, ?_, h.bs, ?_⟩
    · intro j hj
      unfold decK
      by_cases e : j = k
      · subst e; simp (disch := omega) only [jI_lit, jL_lit, jI_n, jI_add, jI_sub, jI_mul, jI_neg, jL_add, jL_sub, jL_mul, jL_neg, jI_lt, jI_le, jI_eq, jL_lt, jL_le, jL_eq, jI_c, jI_64, jL_32, jI_div, jL_div, jx, bnd, if_true, if_false, if_pos, if_neg, Int.toNat_natCast, Int.reduceToNat, Int.add_zero, Int.zero_add, Int.reduceAdd, Int.reduceSub, Int.reduceMul, Int.reduceNeg, Int.reduceLT, Int.reduceLE, jI_rem, sI_1, sI_2, sA_1, sA_2, sA_3, sL_1, sL_2, sL_3, upd_a, updL_a, vaup_a, Nat.reduceEqDiff, Ab_sz, Ab_tx, Ab_ns, Ab_sn, Ab_sx, Ab_ru, Ab_nl, Ab_lsh, Ab_ld, Ab_lm, Ab_lg, Ab_pd, Ab_px, Ab_py, Ab_pz, Ab_kn, Ab_kl, Ab_km]
      · simp (disch := omega) only [jI_lit, jL_lit, jI_n, jI_add, jI_sub, jI_mul, jI_neg, jL_add, jL_sub, jL_mul, jL_neg, jI_lt, jI_le, jI_eq, jL_lt, jL_le, jL_eq, jI_c, jI_64, jL_32, jI_div, jL_div, jx, bnd, if_true, if_false, if_pos, if_neg, Int.toNat_natCast, Int.reduceToNat, Int.add_zero, Int.zero_add, Int.reduceAdd, Int.reduceSub, Int.reduceMul, Int.reduceNeg, Int.reduceLT, Int.reduceLE, jI_rem, sI_1, sI_2, sA_1, sA_2, sA_3, sL_1, sL_2, sL_3, upd_a, updL_a, vaup_a, Nat.reduceEqDiff, Ab_sz, Ab_tx, Ab_ns, Ab_sn, Ab_sx, Ab_ru, Ab_nl, Ab_lsh, Ab_ld, Ab_lm, Ab_lg, Ab_pd, Ab_px, Ab_py, Ab_pz, Ab_kn, Ab_kl, Ab_km]; exact h.le j hj
    · intro j x hx
      rcases get_app pre (k, row) j x hx with ⟨c1, e1⟩ | ⟨c1, e1⟩
      · simp (disch := omega) only [jI_lit, jL_lit, jI_n, jI_add, jI_sub, jI_mul, jI_neg, jL_add, jL_sub, jL_mul, jL_neg, jI_lt, jI_le, jI_eq, jL_lt, jL_le, jL_eq, jI_c, jI_64, jL_32, jI_div, jL_div, jx, bnd, if_true, if_false, if_pos, if_neg, Int.toNat_natCast, Int.reduceToNat, Int.add_zero, Int.zero_add, Int.reduceAdd, Int.reduceSub, Int.reduceMul, Int.reduceNeg, Int.reduceLT, Int.reduceLE, jI_rem, sI_1, sI_2, sA_1, sA_2, sA_3, sL_1, sL_2, sL_3, upd_a, updL_a, vaup_a, Nat.reduceEqDiff, Ab_sz, Ab_tx, Ab_ns, Ab_sn, Ab_sx, Ab_ru, Ab_nl, Ab_lsh, Ab_ld, Ab_lm, Ab_lg, Ab_pd, Ab_px, Ab_py, Ab_pz, Ab_kn, Ab_kl, Ab_km]; exact h.pk j x e1
      · subst e1; subst c1; simp (disch := omega) only [jI_lit, jL_lit, jI_n, jI_add, jI_sub, jI_mul, jI_neg, jL_add, jL_sub, jL_mul, jL_neg, jI_lt, jI_le, jI_eq, jL_lt, jL_le, jL_eq, jI_c, jI_64, jL_32, jI_div, jL_div, jx, bnd, if_true, if_false, if_pos, if_neg, Int.toNat_natCast, Int.reduceToNat, Int.add_zero, Int.zero_add, Int.reduceAdd, Int.reduceSub, Int.reduceMul, Int.reduceNeg, Int.reduceLT, Int.reduceLE, jI_rem, sI_1, sI_2, sA_1, sA_2, sA_3, sL_1, sL_2, sL_3, upd_a, updL_a, vaup_a, Nat.reduceEqDiff, Ab_sz, Ab_tx, Ab_ns, Ab_sn, Ab_sx, Ab_ru, Ab_nl, Ab_lsh, Ab_ld, Ab_lm, Ab_lg, Ab_pd, Ab_px, Ab_py, Ab_pz, Ab_kn, Ab_kl, Ab_km]; exact ⟨v.wk, v.ws⟩
    · intro j x hx
      rcases get_app rl rest j x hx with ⟨c1, e1⟩ | ⟨c1, e1⟩
      · simp (disch := omega) only [jI_lit, jL_lit, jI_n, jI_add, jI_sub, jI_mul, jI_neg, jL_add, jL_sub, jL_mul, jL_neg, jI_lt, jI_le, jI_eq, jL_lt, jL_le, jL_eq, jI_c, jI_64, jL_32, jI_div, jL_div, jx, bnd, if_true, if_false, if_pos, if_neg, Int.toNat_natCast, Int.reduceToNat, Int.add_zero, Int.zero_add, Int.reduceAdd, Int.reduceSub, Int.reduceMul, Int.reduceNeg, Int.reduceLT, Int.reduceLE, jI_rem, sI_1, sI_2, sA_1, sA_2, sA_3, sL_1, sL_2, sL_3, upd_a, updL_a, vaup_a, Nat.reduceEqDiff, Ab_sz, Ab_tx, Ab_ns, Ab_sn, Ab_sx, Ab_ru, Ab_nl, Ab_lsh, Ab_ld, Ab_lm, Ab_lg, Ab_pd, Ab_px, Ab_py, Ab_pz, Ab_kn, Ab_kl, Ab_km]; exact h.rr j x e1
      · subst e1; subst c1; simp (disch := omega) only [jI_lit, jL_lit, jI_n, jI_add, jI_sub, jI_mul, jI_neg, jL_add, jL_sub, jL_mul, jL_neg, jI_lt, jI_le, jI_eq, jL_lt, jL_le, jL_eq, jI_c, jI_64, jL_32, jI_div, jL_div, jx, bnd, if_true, if_false, if_pos, if_neg, Int.toNat_natCast, Int.reduceToNat, Int.add_zero, Int.zero_add, Int.reduceAdd, Int.reduceSub, Int.reduceMul, Int.reduceNeg, Int.reduceLT, Int.reduceLE, jI_rem, sI_1, sI_2, sA_1, sA_2, sA_3, sL_1, sL_2, sL_3, upd_a, updL_a, vaup_a, Nat.reduceEqDiff, Ab_sz, Ab_tx, Ab_ns, Ab_sn, Ab_sx, Ab_ru, Ab_nl, Ab_lsh, Ab_ld, Ab_lm, Ab_lg, Ab_pd, Ab_px, Ab_py, Ab_pz, Ab_kn, Ab_kl, Ab_km]; rw [hrl]; exact v.rm
    · intro j x hx; simp (disch := omega) only [jI_lit, jL_lit, jI_n, jI_add, jI_sub, jI_mul, jI_neg, jL_add, jL_sub, jL_mul, jL_neg, jI_lt, jI_le, jI_eq, jL_lt, jL_le, jL_eq, jI_c, jI_64, jL_32, jI_div, jL_div, jx, bnd, if_true, if_false, if_pos, if_neg, Int.toNat_natCast, Int.reduceToNat, Int.add_zero, Int.zero_add, Int.reduceAdd, Int.reduceSub, Int.reduceMul, Int.reduceNeg, Int.reduceLT, Int.reduceLE, jI_rem, sI_1, sI_2, sA_1, sA_2, sA_3, sL_1, sL_2, sL_3, upd_a, updL_a, vaup_a, Nat.reduceEqDiff, Ab_sz, Ab_tx, Ab_ns, Ab_sn, Ab_sx, Ab_ru, Ab_nl, Ab_lsh, Ab_ld, Ab_lm, Ab_lg, Ab_pd, Ab_px, Ab_py, Ab_pz, Ab_kn, Ab_kl, Ab_km]; exact h.bk j x hx
  · rw [hlen]
    exact ⟨by simp (disch := omega) only [jI_lit, jL_lit, jI_n, jI_add, jI_sub, jI_mul, jI_neg, jL_add, jL_sub, jL_mul, jL_neg, jI_lt, jI_le, jI_eq, jL_lt, jL_le, jL_eq, jI_c, jI_64, jL_32, jI_div, jL_div, jx, bnd, if_true, if_false, if_pos, if_neg, Int.toNat_natCast, Int.reduceToNat, Int.add_zero, Int.zero_add, Int.reduceAdd, Int.reduceSub, Int.reduceMul, Int.reduceNeg, Int.reduceLT, Int.reduceLE, jI_rem, sI_1, sI_2, sA_1, sA_2, sA_3, sL_1, sL_2, sL_3, upd_a, updL_a, vaup_a, Nat.reduceEqDiff, Ab_sz, Ab_tx, Ab_ns, Ab_sn, Ab_sx, Ab_ru, Ab_nl, Ab_lsh, Ab_ld, Ab_lm, Ab_lg, Ab_pd, Ab_px, Ab_py, Ab_pz, Ab_kn, Ab_kl, Ab_km], by simp (disch := omega) only [jI_lit, jL_lit, jI_n, jI_add, jI_sub, jI_mul, jI_neg, jL_add, jL_sub, jL_mul, jL_neg, jI_lt, jI_le, jI_eq, jL_lt, jL_le, jL_eq, jI_c, jI_64, jL_32, jI_div, jL_div, jx, bnd, if_true, if_false, if_pos, if_neg, Int.toNat_natCast, Int.reduceToNat, Int.add_zero, Int.zero_add, Int.reduceAdd, Int.reduceSub, Int.reduceMul, Int.reduceNeg, Int.reduceLT, Int.reduceLE, jI_rem, sI_1, sI_2, sA_1, sA_2, sA_3, sL_1, sL_2, sL_3, upd_a, updL_a, vaup_a, Nat.reduceEqDiff, Ab_sz, Ab_tx, Ab_ns, Ab_sn, Ab_sx, Ab_ru, Ab_nl, Ab_lsh, Ab_ld, Ab_lm, Ab_lg, Ab_pd, Ab_px, Ab_py, Ab_pz, Ab_kn, Ab_kl, Ab_km]; rfl, by simp (disch := omega) only [jI_lit, jL_lit, jI_n, jI_add, jI_sub, jI_mul, jI_neg, jL_add, jL_sub, jL_mul, jL_neg, jI_lt, jI_le, jI_eq, jL_lt, jL_le, jL_eq, jI_c, jI_64, jL_32, jI_div, jL_div, jx, bnd, if_true, if_false, if_pos, if_neg, Int.toNat_natCast, Int.reduceToNat, Int.add_zero, Int.zero_add, Int.reduceAdd, Int.reduceSub, Int.reduceMul, Int.reduceNeg, Int.reduceLT, Int.reduceLE, jI_rem, sI_1, sI_2, sA_1, sA_2, sA_3, sL_1, sL_2, sL_3, upd_a, updL_a, vaup_a, Nat.reduceEqDiff, Ab_sz, Ab_tx, Ab_ns, Ab_sn, Ab_sx, Ab_ru, Ab_nl, Ab_lsh, Ab_ld, Ab_lm, Ab_lg, Ab_pd, Ab_px, Ab_py, Ab_pz, Ab_kn, Ab_kl, Ab_km]⟩
theorem st_pop (H : HM kn c d sz g m0) {rest k row rest2 w2 : Nat} (hrl : rl.length = pre.length) (hk : k < kn) (hlk : left k ≠ 0) (hlb : left k ≤ 20) (h : RB kn m0 (decK left k) (pre ++ [(k, row)]) (rl ++ [rest]) b x2 x3 md) (v : RV (pre ++ [(k, row)]).length rest2 kn w2 md) (hl : pre.length + 1 ≤ 8) (u : Nat) :
    ∃ m2, (∀ n, l_Md_cutBest_47 (n + 1) (jI d) x2 x3 (jI (pre ++ [(k, row)]).length) (jL ((u + sz k : Nat) : Int)) md = l_Md_cutBest_47 n (jI d) x2 x3 (jI pre.length) (jL u) m2) ∧ RB kn m0 left pre rl b x2 x3 m2 ∧ RV pre.length rest k row m2 := by
  have hlen : (pre ++ [(k, row)]).length = pre.length + 1 := by simp
  have h41 := H.d41
  have hk3 := H.k3
  have hkd : md.2.1 7 d = jI kn := by rw [h.f.2.2 7 (by omega) (by omega) (by omega) (by omega) (by omega) (by omega)]; exact H.kd
  have hkl : md.2.2 5 (3 * d + k) = jL (sz k) := by rw [h.f.2.1]; exact H.kl k hk
  obtain ⟨p1, p2⟩ := h.pk pre.length (k, row) (by simp)
  simp only at p1 p2
  have p3 := h.rr pre.length rest (by rw [← hrl]; simp)
  have hle := h.le k hk
  unfold decK at hle
  rw [if_pos rfl] at hle
  refine ⟨sA md 9 (upd (md.2.1 9) k (jI (left k))), ?_, ?_, ?_⟩
  · intro n
    have i1 : ix (jI ((pre ++ [(k, row)]).length : Int)) 9 = true := by rw [hlen]; exact jx (by omega) (by omega) (by omega)
    have i2 : ix (jI (d : Int)) 41 = true := jx (by omega) (by omega) (by omega)
    have e1 : (jI ((pre ++ [(k, row)]).length : Int)).toNatClampNeg = (pre ++ [(k, row)]).length := by rw [hlen, jI_c (by omega) (by omega)]; omega
    have e2 : (jI (d : Int)).toNatClampNeg = d := by rw [jI_c (by omega) (by omega)]; omega
    rw [cb_eq, if_neg (by rw [hlen]; simp (disch := omega) only [jI_lit, jL_lit, jI_n, jI_add, jI_sub, jI_mul, jI_neg, jL_add, jL_sub, jL_mul, jL_neg, jI_lt, jI_le, jI_eq, jL_lt, jL_le, jL_eq, jI_c, jI_64, jL_32, jI_div, jL_div, jx, bnd, if_true, if_false, if_pos, if_neg, Int.toNat_natCast, Int.reduceToNat, Int.add_zero, Int.zero_add, Int.reduceAdd, Int.reduceSub, Int.reduceMul, Int.reduceNeg, Int.reduceLT, Int.reduceLE, jI_rem, sI_1, sI_2, sA_1, sA_2, sA_3, sL_1, sL_2, sL_3, upd_a, updL_a, vaup_a, Nat.reduceEqDiff, Ab_sz, Ab_tx, Ab_ns, Ab_sn, Ab_sx, Ab_ru, Ab_nl, Ab_lsh, Ab_ld, Ab_lm, Ab_lg, Ab_pd, Ab_px, Ab_py, Ab_pz, Ab_kn, Ab_kl, Ab_km]; omega)]
    simp only [i1, i2, e1, e2, hkd, v.wk, bnd, if_true]
    unfold cbPop
    have ep : jI ((pre ++ [(k, row)]).length : Int) + (-1) = jI (pre.length : Int) := by rw [hlen, show (-1 : Int32) = jI (-1) from rfl, jI_add]; congr 1; omega
    have i3 : ix (jI (pre.length : Int)) 9 = true := jx (by omega) (by omega) (by omega)
    have e3 : (jI (pre.length : Int)).toNatClampNeg = pre.length := by rw [jI_c (by omega) (by omega)]; omega
    have i5 : ix (jI (k : Int)) 3 = true := jx (by omega) (by omega) (by omega)
    have e5 : (jI (k : Int)).toNatClampNeg = k := by rw [jI_c (by omega) (by omega)]; omega
    have i4 : ix (3 * jI (d : Int) + jI k) 123 = true := by rw [show (3 : Int32) = jI 3 from rfl, jI_mul, jI_add]; exact jx (by omega) (by omega) (by omega)
    have e4 : (3 * jI (d : Int) + jI k).toNatClampNeg = 3 * d + k := by rw [show (3 : Int32) = jI 3 from rfl, jI_mul, jI_add, jI_c (by omega) (by omega)]; omega
    have e6 : jI ((left k - 1 : Nat) : Int) + 1 = jI (left k) := by rw [show (1 : Int32) = jI 1 from rfl, jI_add]; congr 1; omega
    have e7 : jL ((u + sz k : Nat) : Int) - jL (sz k) = jL u := by rw [jL_sub]; congr 1; omega
    rw [ep, if_neg (by simp (disch := omega) only [jI_lit, jL_lit, jI_n, jI_add, jI_sub, jI_mul, jI_neg, jL_add, jL_sub, jL_mul, jL_neg, jI_lt, jI_le, jI_eq, jL_lt, jL_le, jL_eq, jI_c, jI_64, jL_32, jI_div, jL_div, jx, bnd, if_true, if_false, if_pos, if_neg, Int.toNat_natCast, Int.reduceToNat, Int.add_zero, Int.zero_add, Int.reduceAdd, Int.reduceSub, Int.reduceMul, Int.reduceNeg, Int.reduceLT, Int.reduceLE, jI_rem, sI_1, sI_2, sA_1, sA_2, sA_3, sL_1, sL_2, sL_3, upd_a, updL_a, vaup_a, Nat.reduceEqDiff, Ab_sz, Ab_tx, Ab_ns, Ab_sn, Ab_sx, Ab_ru, Ab_nl, Ab_lsh, Ab_ld, Ab_lm, Ab_lg, Ab_pd, Ab_px, Ab_py, Ab_pz, Ab_kn, Ab_kl, Ab_km]; omega)]
    simp only [i3, e3, p1, i5, e5, hle, e6, bnd, if_true, sA_2, sA_3, Nat.reduceEqDiff, if_false, i4, e4, hkl, e7]
  · refine ⟨h.f.sA _ (by omega), ?_, ?_, ?_, h.bs, ?_⟩
    · intro j hj
      have h5 := h.le j hj
      unfold decK at h5
      by_cases e : j = k
      · subst e; simp (disch := omega) only [jI_lit, jL_lit, jI_n, jI_add, jI_sub, jI_mul, jI_neg, jL_add, jL_sub, jL_mul, jL_neg, jI_lt, jI_le, jI_eq, jL_lt, jL_le, jL_eq, jI_c, jI_64, jL_32, jI_div, jL_div, jx, bnd, if_true, if_false, if_pos, if_neg, Int.toNat_natCast, Int.reduceToNat, Int.add_zero, Int.zero_add, Int.reduceAdd, Int.reduceSub, Int.reduceMul, Int.reduceNeg, Int.reduceLT, Int.reduceLE, jI_rem, sI_1, sI_2, sA_1, sA_2, sA_3, sL_1, sL_2, sL_3, upd_a, updL_a, vaup_a, Nat.reduceEqDiff, Ab_sz, Ab_tx, Ab_ns, Ab_sn, Ab_sx, Ab_ru, Ab_nl, Ab_lsh, Ab_ld, Ab_lm, Ab_lg, Ab_pd, Ab_px, Ab_py, Ab_pz, Ab_kn, Ab_kl, Ab_km]
      · rw [if_neg e] at h5; simp (disch := omega) only [jI_lit, jL_lit, jI_n, jI_add, jI_sub, jI_mul, jI_neg, jL_add, jL_sub, jL_mul, jL_neg, jI_lt, jI_le, jI_eq, jL_lt, jL_le, jL_eq, jI_c, jI_64, jL_32, jI_div, jL_div, jx, bnd, if_true, if_false, if_pos, if_neg, Int.toNat_natCast, Int.reduceToNat, Int.add_zero, Int.zero_add, Int.reduceAdd, Int.reduceSub, Int.reduceMul, Int.reduceNeg, Int.reduceLT, Int.reduceLE, jI_rem, sI_1, sI_2, sA_1, sA_2, sA_3, sL_1, sL_2, sL_3, upd_a, updL_a, vaup_a, Nat.reduceEqDiff, Ab_sz, Ab_tx, Ab_ns, Ab_sn, Ab_sx, Ab_ru, Ab_nl, Ab_lsh, Ab_ld, Ab_lm, Ab_lg, Ab_pd, Ab_px, Ab_py, Ab_pz, Ab_kn, Ab_kl, Ab_km]; exact h5
    · intro j x hx
      simp (disch := omega) only [jI_lit, jL_lit, jI_n, jI_add, jI_sub, jI_mul, jI_neg, jL_add, jL_sub, jL_mul, jL_neg, jI_lt, jI_le, jI_eq, jL_lt, jL_le, jL_eq, jI_c, jI_64, jL_32, jI_div, jL_div, jx, bnd, if_true, if_false, if_pos, if_neg, Int.toNat_natCast, Int.reduceToNat, Int.add_zero, Int.zero_add, Int.reduceAdd, Int.reduceSub, Int.reduceMul, Int.reduceNeg, Int.reduceLT, Int.reduceLE, jI_rem, sI_1, sI_2, sA_1, sA_2, sA_3, sL_1, sL_2, sL_3, upd_a, updL_a, vaup_a, Nat.reduceEqDiff, Ab_sz, Ab_tx, Ab_ns, Ab_sn, Ab_sx, Ab_ru, Ab_nl, Ab_lsh, Ab_ld, Ab_lm, Ab_lg, Ab_pd, Ab_px, Ab_py, Ab_pz, Ab_kn, Ab_kl, Ab_km]
      exact h.pk j x (by rw [List.getElem?_append_left (List.getElem?_eq_some_iff.mp hx).1]; exact hx)
    · intro j x hx
      simp (disch := omega) only [jI_lit, jL_lit, jI_n, jI_add, jI_sub, jI_mul, jI_neg, jL_add, jL_sub, jL_mul, jL_neg, jI_lt, jI_le, jI_eq, jL_lt, jL_le, jL_eq, jI_c, jI_64, jL_32, jI_div, jL_div, jx, bnd, if_true, if_false, if_pos, if_neg, Int.toNat_natCast, Int.reduceToNat, Int.add_zero, Int.zero_add, Int.reduceAdd, Int.reduceSub, Int.reduceMul, Int.reduceNeg, Int.reduceLT, Int.reduceLE, jI_rem, sI_1, sI_2, sA_1, sA_2, sA_3, sL_1, sL_2, sL_3, upd_a, updL_a, vaup_a, Nat.reduceEqDiff, Ab_sz, Ab_tx, Ab_ns, Ab_sn, Ab_sx, Ab_ru, Ab_nl, Ab_lsh, Ab_ld, Ab_lm, Ab_lg, Ab_pd, Ab_px, Ab_py, Ab_pz, Ab_kn, Ab_kl, Ab_km]
      exact h.rr j x (by rw [List.getElem?_append_left (List.getElem?_eq_some_iff.mp hx).1]; exact hx)
    · intro j x hx; simp (disch := omega) only [jI_lit, jL_lit, jI_n, jI_add, jI_sub, jI_mul, jI_neg, jL_add, jL_sub, jL_mul, jL_neg, jI_lt, jI_le, jI_eq, jL_lt, jL_le, jL_eq, jI_c, jI_64, jL_32, jI_div, jL_div, jx, bnd, if_true, if_false, if_pos, if_neg, Int.toNat_natCast, Int.reduceToNat, Int.add_zero, Int.zero_add, Int.reduceAdd, Int.reduceSub, Int.reduceMul, Int.reduceNeg, Int.reduceLT, Int.reduceLE, jI_rem, sI_1, sI_2, sA_1, sA_2, sA_3, sL_1, sL_2, sL_3, upd_a, updL_a, vaup_a, Nat.reduceEqDiff, Ab_sz, Ab_tx, Ab_ns, Ab_sn, Ab_sx, Ab_ru, Ab_nl, Ab_lsh, Ab_ld, Ab_lm, Ab_lg, Ab_pd, Ab_px, Ab_py, Ab_pz, Ab_kn, Ab_kl, Ab_km]; exact h.bk j x hx
  · exact ⟨by simp (disch := omega) only [jI_lit, jL_lit, jI_n, jI_add, jI_sub, jI_mul, jI_neg, jL_add, jL_sub, jL_mul, jL_neg, jI_lt, jI_le, jI_eq, jL_lt, jL_le, jL_eq, jI_c, jI_64, jL_32, jI_div, jL_div, jx, bnd, if_true, if_false, if_pos, if_neg, Int.toNat_natCast, Int.reduceToNat, Int.add_zero, Int.zero_add, Int.reduceAdd, Int.reduceSub, Int.reduceMul, Int.reduceNeg, Int.reduceLT, Int.reduceLE, jI_rem, sI_1, sI_2, sA_1, sA_2, sA_3, sL_1, sL_2, sL_3, upd_a, updL_a, vaup_a, Nat.reduceEqDiff, Ab_sz, Ab_tx, Ab_ns, Ab_sn, Ab_sx, Ab_ru, Ab_nl, Ab_lsh, Ab_ld, Ab_lm, Ab_lg, Ab_pd, Ab_px, Ab_py, Ab_pz, Ab_kn, Ab_kl, Ab_km]; exact p3, by simp (disch := omega) only [jI_lit, jL_lit, jI_n, jI_add, jI_sub, jI_mul, jI_neg, jL_add, jL_sub, jL_mul, jL_neg, jI_lt, jI_le, jI_eq, jL_lt, jL_le, jL_eq, jI_c, jI_64, jL_32, jI_div, jL_div, jx, bnd, if_true, if_false, if_pos, if_neg, Int.toNat_natCast, Int.reduceToNat, Int.add_zero, Int.zero_add, Int.reduceAdd, Int.reduceSub, Int.reduceMul, Int.reduceNeg, Int.reduceLT, Int.reduceLE, jI_rem, sI_1, sI_2, sA_1, sA_2, sA_3, sL_1, sL_2, sL_3, upd_a, updL_a, vaup_a, Nat.reduceEqDiff, Ab_sz, Ab_tx, Ab_ns, Ab_sn, Ab_sx, Ab_ru, Ab_nl, Ab_lsh, Ab_ld, Ab_lm, Ab_lg, Ab_pd, Ab_px, Ab_py, Ab_pz, Ab_kn, Ab_kl, Ab_km]; exact p1, by simp (disch := omega) only [jI_lit, jL_lit, jI_n, jI_add, jI_sub, jI_mul, jI_neg, jL_add, jL_sub, jL_mul, jL_neg, jI_lt, jI_le, jI_eq, jL_lt, jL_le, jL_eq, jI_c, jI_64, jL_32, jI_div, jL_div, jx, bnd, if_true, if_false, if_pos, if_neg, Int.toNat_natCast, Int.reduceToNat, Int.add_zero, Int.zero_add, Int.reduceAdd, Int.reduceSub, Int.reduceMul, Int.reduceNeg, Int.reduceLT, Int.reduceLE, jI_rem, sI_1, sI_2, sA_1, sA_2, sA_3, sL_1, sL_2, sL_3, upd_a, updL_a, vaup_a, Nat.reduceEqDiff, Ab_sz, Ab_tx, Ab_ns, Ab_sn, Ab_sx, Ab_ru, Ab_nl, Ab_lsh, Ab_ld, Ab_lm, Ab_lg, Ab_pd, Ab_px, Ab_py, Ab_pz, Ab_kn, Ab_kl, Ab_km]; exact p2⟩
theorem st_dear (h : bst b x2 x3) {lv s k rest row : Nat} (hl : lv + 1 ≤ 8) {u : Nat} (hu : u + s ≤ 1000000) (hr : rest < 256) (hrow : row ≤ rest) : ∃ q : Int, cbDear x2 x3 (jI lv) (jL u) (jL s) (jI row) (jI rest) = some (jI q) ∧ ((q = 0 ∧ (row = rest → 16 * u + lv + (16 * s + 1) < b.1)) ∨ (q = 1 ∧ (row = rest → b.1 ≤ 16 * u + lv + (16 * s + 1)) ∧ b.1 ≤ 16 * u + lv + (16 * s + 1) + 17)) := by
  unfold cbDear
  rcases h with ⟨h1, h2, rfl, rfl⟩ | ⟨L, h1, h2, rfl, rfl, h5⟩
  · exact ⟨0, by simp (disch := omega) only [jI_lit, jL_lit, jI_n, jI_add, jI_sub, jI_mul, jI_neg, jL_add, jL_sub, jL_mul, jL_neg, jI_lt, jI_le, jI_eq, jL_lt, jL_le, jL_eq, jI_c, jI_64, jL_32, jI_div, jL_div, jx, bnd, if_true, if_false, if_pos, if_neg, Int.toNat_natCast, Int.reduceToNat, Int.add_zero, Int.zero_add, Int.reduceAdd, Int.reduceSub, Int.reduceMul, Int.reduceNeg, Int.reduceLT, Int.reduceLE, jI_rem, sI_1, sI_2, sA_1, sA_2, sA_3, sL_1, sL_2, sL_3, upd_a, updL_a, vaup_a, Nat.reduceEqDiff, Ab_sz, Ab_tx, Ab_ns, Ab_sn, Ab_sx, Ab_ru, Ab_nl, Ab_lsh, Ab_ld, Ab_lm, Ab_lg, Ab_pd, Ab_px, Ab_py, Ab_pz, Ab_kn, Ab_kl, Ab_km], Or.inl ⟨rfl, fun _ => by omega⟩⟩
  · by_cases c1 : L < u + s
    · exact ⟨1, by simp (disch := omega) only [jI_lit, jL_lit, jI_n, jI_add, jI_sub, jI_mul, jI_neg, jL_add, jL_sub, jL_mul, jL_neg, jI_lt, jI_le, jI_eq, jL_lt, jL_le, jL_eq, jI_c, jI_64, jL_32, jI_div, jL_div, jx, bnd, if_true, if_false, if_pos, if_neg, Int.toNat_natCast, Int.reduceToNat, Int.add_zero, Int.zero_add, Int.reduceAdd, Int.reduceSub, Int.reduceMul, Int.reduceNeg, Int.reduceLT, Int.reduceLE, jI_rem, sI_1, sI_2, sA_1, sA_2, sA_3, sL_1, sL_2, sL_3, upd_a, updL_a, vaup_a, Nat.reduceEqDiff, Ab_sz, Ab_tx, Ab_ns, Ab_sn, Ab_sx, Ab_ru, Ab_nl, Ab_lsh, Ab_ld, Ab_lm, Ab_lg, Ab_pd, Ab_px, Ab_py, Ab_pz, Ab_kn, Ab_kl, Ab_km], Or.inr ⟨rfl, fun _ => by omega, by omega⟩⟩
    · by_cases c2 : u + s = L
      · by_cases c3 : row = rest
        · by_cases c4 : lv + 1 < b.2.length
          · exact ⟨0, by simp (disch := omega) only [jI_lit, jL_lit, jI_n, jI_add, jI_sub, jI_mul, jI_neg, jL_add, jL_sub, jL_mul, jL_neg, jI_lt, jI_le, jI_eq, jL_lt, jL_le, jL_eq, jI_c, jI_64, jL_32, jI_div, jL_div, jx, bnd, if_true, if_false, if_pos, if_neg, Int.toNat_natCast, Int.reduceToNat, Int.add_zero, Int.zero_add, Int.reduceAdd, Int.reduceSub, Int.reduceMul, Int.reduceNeg, Int.reduceLT, Int.reduceLE, jI_rem, sI_1, sI_2, sA_1, sA_2, sA_3, sL_1, sL_2, sL_3, upd_a, updL_a, vaup_a, Nat.reduceEqDiff, Ab_sz, Ab_tx, Ab_ns, Ab_sn, Ab_sx, Ab_ru, Ab_nl, Ab_lsh, Ab_ld, Ab_lm, Ab_lg, Ab_pd, Ab_px, Ab_py, Ab_pz, Ab_kn, Ab_kl, Ab_km], Or.inl ⟨rfl, fun _ => by omega⟩⟩
          · exact ⟨1, by simp (disch := omega) only [jI_lit, jL_lit, jI_n, jI_add, jI_sub, jI_mul, jI_neg, jL_add, jL_sub, jL_mul, jL_neg, jI_lt, jI_le, jI_eq, jL_lt, jL_le, jL_eq, jI_c, jI_64, jL_32, jI_div, jL_div, jx, bnd, if_true, if_false, if_pos, if_neg, Int.toNat_natCast, Int.reduceToNat, Int.add_zero, Int.zero_add, Int.reduceAdd, Int.reduceSub, Int.reduceMul, Int.reduceNeg, Int.reduceLT, Int.reduceLE, jI_rem, sI_1, sI_2, sA_1, sA_2, sA_3, sL_1, sL_2, sL_3, upd_a, updL_a, vaup_a, Nat.reduceEqDiff, Ab_sz, Ab_tx, Ab_ns, Ab_sn, Ab_sx, Ab_ru, Ab_nl, Ab_lsh, Ab_ld, Ab_lm, Ab_lg, Ab_pd, Ab_px, Ab_py, Ab_pz, Ab_kn, Ab_kl, Ab_km], Or.inr ⟨rfl, fun _ => by omega, by omega⟩⟩
        · exact ⟨1, by simp (disch := omega) only [jI_lit, jL_lit, jI_n, jI_add, jI_sub, jI_mul, jI_neg, jL_add, jL_sub, jL_mul, jL_neg, jI_lt, jI_le, jI_eq, jL_lt, jL_le, jL_eq, jI_c, jI_64, jL_32, jI_div, jL_div, jx, bnd, if_true, if_false, if_pos, if_neg, Int.toNat_natCast, Int.reduceToNat, Int.add_zero, Int.zero_add, Int.reduceAdd, Int.reduceSub, Int.reduceMul, Int.reduceNeg, Int.reduceLT, Int.reduceLE, jI_rem, sI_1, sI_2, sA_1, sA_2, sA_3, sL_1, sL_2, sL_3, upd_a, updL_a, vaup_a, Nat.reduceEqDiff, Ab_sz, Ab_tx, Ab_ns, Ab_sn, Ab_sx, Ab_ru, Ab_nl, Ab_lsh, Ab_ld, Ab_lm, Ab_lg, Ab_pd, Ab_px, Ab_py, Ab_pz, Ab_kn, Ab_kl, Ab_km], Or.inr ⟨rfl, fun h => absurd h c3, by omega⟩⟩
      · exact ⟨0, by simp (disch := omega) only [jI_lit, jL_lit, jI_n, jI_add, jI_sub, jI_mul, jI_neg, jL_add, jL_sub, jL_mul, jL_neg, jI_lt, jI_le, jI_eq, jL_lt, jL_le, jL_eq, jI_c, jI_64, jL_32, jI_div, jL_div, jx, bnd, if_true, if_false, if_pos, if_neg, Int.toNat_natCast, Int.reduceToNat, Int.add_zero, Int.zero_add, Int.reduceAdd, Int.reduceSub, Int.reduceMul, Int.reduceNeg, Int.reduceLT, Int.reduceLE, jI_rem, sI_1, sI_2, sA_1, sA_2, sA_3, sL_1, sL_2, sL_3, upd_a, updL_a, vaup_a, Nat.reduceEqDiff, Ab_sz, Ab_tx, Ab_ns, Ab_sn, Ab_sx, Ab_ru, Ab_nl, Ab_lsh, Ab_ld, Ab_lm, Ab_lg, Ab_pd, Ab_px, Ab_py, Ab_pz, Ab_kn, Ab_kl, Ab_km], Or.inl ⟨rfl, fun _ => by omega⟩⟩
end MB
section MB
variable {kn c d : Nat} {sz g left : Nat → Nat} {m0 md : MS} {pre : Way} {rl : List Nat} {b : Bst} {x2 : Int32} {x3 : Int64}
def stT : Nat → Nat
  | 0 => 0
  | r + 1 => 3 * (2 ^ r * (stT r + 2) + 1)
def Frm (kn c d : Nat) (sz g : Nat → Nat) (m0 : MS) (r : Nat) : Prop := ∀ (rest : Nat) (left : Nat → Nat) (pre : Way) (rl : List Nat) (b : Bst) (x2 : Int32) (x3 : Int64) (md : MS) (u : Nat), 0 < rest → rest < 2 ^ r → rest < 2 ^ c → pre.length + r ≤ 8 → rl.length = pre.length → u ≤ 30000 * pre.length → (∀ j, j < kn → left j ≤ 20) → RB kn m0 left pre rl b x2 x3 md → RV pre.length rest 0 (rest + 1) md →
    ∃ s x2' x3' m2 w2, s ≤ stT r ∧ (∀ n, l_Md_cutBest_47 (n + s) (jI d) x2 x3 (jI pre.length) (jL u) md = l_Md_cutBest_47 n (jI d) x2' x3' (jI pre.length) (jL u) m2) ∧ RB kn m0 left pre rl (srch kn sz (sS c g) r rest left pre (16 * u + pre.length) b) x2' x3' m2 ∧ RV pre.length rest kn w2 m2
theorem fl17 {kn : Nat} {sz S left0 : Nat → Nat} (hz : ∀ k, k < kn → 1 ≤ sz k) : ∀ rest, 0 < rest → rest < 256 → ∀ row ∈ rowsOf rest, ∀ k, k < kn → left0 k ≠ 0 → S row ≤ sz k → (if rest = 0 then 0 else 17) ≤ 16 * sz k + 1 + (if rest - row = 0 then 0 else 17) := fun rest h1 h2 row h3 k h4 h5 h6 => by
  have := hz k h4
  rw [if_neg (by omega)]; omega
theorem f_row (H : HM kn c d sz g m0) {r : Nat} (IH : Frm kn c d sz g m0 r) {rest k w : Nat} (hr0 : 0 < rest) (hrr : rest < 2 ^ (r + 1)) (hrc : rest < 2 ^ c) (hpl : pre.length + (r + 1) ≤ 8) (hrl : rl.length = pre.length) {u : Nat} (hu : u ≤ 30000 * pre.length) (hlb : ∀ j, j < kn → left j ≤ 20) (hk : k < kn) (h : RB kn m0 left pre rl b x2 x3 md) (v : RV pre.length rest k w md) (hw : w ≤ 256) (hw1 : 1 ≤ w) (hn : hbit rest ≤ nxt rest w) (hs : nxt rest w &&& rest = nxt rest w) :
    ∃ s x2' x3' m2, s ≤ stT r + 2 ∧ (∀ n, l_Md_cutBest_47 (n + s) (jI d) x2 x3 (jI pre.length) (jL u) md = l_Md_cutBest_47 n (jI d) x2' x3' (jI pre.length) (jL u) m2) ∧ RB kn m0 left pre rl (if left k = 0 then b else oneRow (srch kn sz (sS c g) r) (sS c g) (sz k) k rest (decK left k) pre (16 * u + pre.length + (16 * sz k + 1)) b (nxt rest w)) x2' x3' m2 ∧ RV pre.length rest k (nxt rest w) m2 := by
  have hc8 : (2 : Nat) ^ c ≤ 2 ^ 8 := Nat.pow_le_pow_right (by omega) H.c8
  have hk3 := H.k3
  have hzk := H.zb k hk
  have hlk := hlb k hk
  have hnr : nxt rest w ≤ rest := by
    unfold nxt; split
    · exact Nat.le_refl _
    · exact Nat.and_le_right
  have hhp := hbit_p rest
  have hpow := hbit_pow hr0 hrr
  have hlt := hbit_lt rest
  obtain ⟨t1, t2⟩ := h.top v (nxt rest w)
  have st := fun n => st_try H h v hr0 hrc (by omega) hk hw hw1 hn u n
  obtain ⟨q, eq, hq⟩ := st_dear h.bs (lv := pre.length) (s := sz k) (k := k) (rest := rest) (row := nxt rest w) (by omega) (u := u) (by omega) (by omega) hnr
  have hSb := bsum_b (f := fun j => g (c - 1 - j)) (m := 120000) (nxt rest w) c (fun j hj => H.gb _ (by omega))
  have hSb2 : c * 120000 ≤ 8 * 120000 := Nat.mul_le_mul_right _ H.c8
  simp only [eq, bnd] at st
  have hS2 : sS c g (nxt rest w) ≤ 8 * 120000 := Nat.le_trans hSb hSb2
  by_cases c0 : left k = 0
  · refine ⟨1, x2, x3, _, by omega, fun n => ?_, ?_, t2⟩
    · rw [st n, if_pos (by rw [c0]; rfl)]
    · rw [if_pos c0]; exact t1
  · rw [if_neg c0]
    have n0 : ¬ jI (left k : Int) = 0 := by rw [show (0 : Int32) = jI 0 from rfl, jI_eq (by omega) (by omega) (by omega) (by omega)]; omega
    simp only [n0, if_false] at st
    unfold oneRow
    rcases hq with ⟨rfl, hq⟩ | ⟨rfl, hq1, hq2⟩
    · simp only [show jI 0 = 0 from rfl, if_true] at st
      by_cases c1 : sS c g (nxt rest w) ≤ sz k
      · rw [if_pos c1]
        have n1 : jL (sS c g (nxt rest w) : Int) ≤ jL (sz k) := by rw [jL_le (by omega) (by omega) (by omega) (by omega)]; omega
        simp only [n1, if_true] at st
        by_cases c2 : nxt rest w = rest
        · rw [if_pos c2, if_pos (hq c2)]
          simp only [c2, if_true] at st
          rw [c2] at t1 t2 ⊢
          obtain ⟨x2', x3', m2, e2, r2, v2⟩ := st_keep (sz := sz) (d := d) t1 t2 (by omega) u (by omega) (jI (hbit rest)) (jI rest) 0
          exact ⟨1, x2', x3', m2, by omega, fun n => by rw [st n, e2 n], r2, v2⟩
        · rw [if_neg c2]
          have n2 : ¬ jI (nxt rest w : Int) = jI rest := by rw [jI_eq (by omega) (by omega) (by omega) (by omega)]; omega
          simp only [n2, if_false] at st
          obtain ⟨m2, e2, r2, v2⟩ := st_push (sz := sz) (d := d) t1 hrl t2 hk3 hk c0 hlk (by omega) (by omega) hs hnr u
          have hlen : (pre ++ [(k, nxt rest w)]).length = pre.length + 1 := by simp
          obtain ⟨s, x2', x3', m3, w3, hs3, e3, r3, v3⟩ := IH (rest - nxt rest w) (decK left k) (pre ++ [(k, nxt rest w)]) (rl ++ [rest]) b x2 x3 m2 (u + sz k) (by omega) (by omega) (by omega) (by omega) (by simp [hrl]) (by rw [hlen]; omega) (fun j hj => by have := hlb j hj; unfold decK; split <;> omega) r2 v2
          obtain ⟨m4, e4, r4, v4⟩ := st_pop (sz := sz) H hrl hk c0 hlk r3 v3 (by omega) u
          refine ⟨s + 2, x2', x3', m4, by omega, fun n => ?_, ?_, v4⟩
          · rw [show n + (s + 2) = (n + 1 + s) + 1 from by omega, st, e2, e3, e4]
          · rw [show 16 * u + pre.length + (16 * sz k + 1) = 16 * (u + sz k) + (pre ++ [(k, nxt rest w)]).length from by rw [hlen]; omega]
            exact r4
      · rw [if_neg c1]
        have n1 : ¬ jL (sS c g (nxt rest w) : Int) ≤ jL (sz k) := by rw [jL_le (by omega) (by omega) (by omega) (by omega)]; omega
        simp only [n1, if_false] at st
        exact ⟨1, x2, x3, _, by omega, fun n => st n, t1, t2⟩
    · simp only [show ¬ jI 1 = 0 by decide, if_false] at st
      refine ⟨1, x2, x3, _, by omega, fun n => st n, ?_, t2⟩
      have e : (if sS c g (nxt rest w) ≤ sz k then if nxt rest w = rest then if 16 * u + pre.length + (16 * sz k + 1) < b.1 then (16 * u + pre.length + (16 * sz k + 1), pre ++ [(k, nxt rest w)]) else b else srch kn sz (sS c g) r (rest - nxt rest w) (decK left k) (pre ++ [(k, nxt rest w)]) (16 * u + pre.length + (16 * sz k + 1)) b else b) = b := by
        split
        · split
          · rename_i e; rw [if_neg (by have := hq1 e; omega)]
          · rename_i e
            exact srch_prune (left0 := decK left k) (fl := fun s => if s = 0 then 0 else 17) (fl17 (fun k hk => (H.zb k hk).1)) (by simp) r (rest - nxt rest w) _ _ _ b (by omega) (by omega) (fun _ _ h => h) (by rw [if_neg (by omega)]; omega)
        · rfl
      rw [e]; exact t1
theorem nxt_of {rest row : Nat} (h : row ≤ rest) : nxt rest row = (row - 1) &&& rest := by unfold nxt; rw [if_neg (by omega)]
theorem f_rows (H : HM kn c d sz g m0) {r : Nat} (IH : Frm kn c d sz g m0 r) {rest k : Nat} (hr0 : 0 < rest) (hrr : rest < 2 ^ (r + 1)) (hrc : rest < 2 ^ c) (hpl : pre.length + (r + 1) ≤ 8) (hrl : rl.length = pre.length) {u : Nat} (hu : u ≤ 30000 * pre.length) (hlb : ∀ j, j < kn → left j ≤ 20) (hk : k < kn) :
    ∀ (m w row : Nat) (b : Bst) (x2 : Int32) (x3 : Int64) (md : MS), nxt rest w = row → row < m → row &&& rest = row → row ≤ rest → w ≤ 256 → 1 ≤ w → RB kn m0 left pre rl b x2 x3 md → RV pre.length rest k w md →
    ∃ s x2' x3' m2, s ≤ (row + 1 - hbit rest) * (stT r + 2) + 1 ∧ (∀ n, l_Md_cutBest_47 (n + s) (jI d) x2 x3 (jI pre.length) (jL u) md = l_Md_cutBest_47 n (jI d) x2' x3' (jI pre.length) (jL u) m2) ∧ RB kn m0 left pre rl (if left k = 0 then b else (rowsF rest (hbit rest) m row).foldl (oneRow (srch kn sz (sS c g) r) (sS c g) (sz k) k rest (decK left k) pre (16 * u + pre.length + (16 * sz k + 1))) b) x2' x3' m2 ∧ RV pre.length rest (k + 1) (rest + 1) m2 := by
  intro m
  have hc8 : (2 : Nat) ^ c ≤ 2 ^ 8 := Nat.pow_le_pow_right (by omega) H.c8
  have hhp := hbit_p rest
  have hhl := hbit_le hr0
  induction m with
  | zero => intro w row b x2 x3 md _ h; omega
  | succ m ih =>
    intro w row b x2 x3 md hnx hm hs hle hw hw1 h v
    simp only [rowsF]
    by_cases c1 : row < hbit rest
    · rw [if_pos c1]
      obtain ⟨m2, e, r2, v2⟩ := st_kind H h v hr0 hrc (by omega) hk hw hw1 (by rw [hnx]; exact c1) u
      refine ⟨1, x2, x3, m2, by omega, e, ?_, v2⟩
      simp only [List.foldl_nil, ite_self]
      exact r2
    · rw [if_neg c1]
      obtain ⟨s1, y2, y3, m2, hs1, e1, r1, v1⟩ := f_row (k := k) H IH hr0 hrr hrc hpl hrl hu hlb hk h v hw hw1 (by rw [hnx]; omega) (by rw [hnx]; exact hs)
      rw [hnx] at r1 v1
      have hn2 : (row - 1) &&& rest ≤ row - 1 := Nat.and_le_left
      obtain ⟨s2, z2, z3, m3, hs2, e2, r2, v2⟩ := ih row ((row - 1) &&& rest) _ y2 y3 m2 (nxt_of hle) (by omega) (by rw [Nat.and_assoc, Nat.and_self]) (by omega) (by omega) (by omega) r1 v1
      refine ⟨s1 + s2, z2, z3, m3, ?_, fun n => by rw [show n + (s1 + s2) = (n + s2) + s1 from by omega, e1, e2], ?_, v2⟩
      · have h3 : ((row - 1) &&& rest) + 1 - hbit rest + 1 ≤ row + 1 - hbit rest := by omega
        have h4 := Nat.mul_le_mul_right (stT r + 2) h3
        rw [Nat.add_mul, Nat.one_mul] at h4
        omega
      · by_cases c0 : left k = 0
        · rw [if_pos c0] at r2 ⊢
          rw [if_pos c0] at r2
          exact r2
        · rw [if_neg c0] at r2 ⊢
          rw [if_neg c0] at r2
          rw [List.foldl_cons]
          exact r2
theorem f_kinds (H : HM kn c d sz g m0) {r : Nat} (IH : Frm kn c d sz g m0 r) {rest : Nat} (hr0 : 0 < rest) (hrr : rest < 2 ^ (r + 1)) (hrc : rest < 2 ^ c) (hpl : pre.length + (r + 1) ≤ 8) (hrl : rl.length = pre.length) {u : Nat} (hu : u ≤ 30000 * pre.length) (hlb : ∀ j, j < kn → left j ≤ 20) :
    ∀ (m k : Nat) (b : Bst) (x2 : Int32) (x3 : Int64) (md : MS), k + m = kn → RB kn m0 left pre rl b x2 x3 md → RV pre.length rest k (rest + 1) md →
    ∃ s x2' x3' m2 w2, s ≤ m * (2 ^ r * (stT r + 2) + 1) ∧ (∀ n, l_Md_cutBest_47 (n + s) (jI d) x2 x3 (jI pre.length) (jL u) md = l_Md_cutBest_47 n (jI d) x2' x3' (jI pre.length) (jL u) m2) ∧ RB kn m0 left pre rl ((List.range' k m).foldl (oneKind (srch kn sz (sS c g) r) sz (sS c g) rest left pre (16 * u + pre.length)) b) x2' x3' m2 ∧ RV pre.length rest kn w2 m2 := by
  intro m
  have hc8 : (2 : Nat) ^ c ≤ 2 ^ 8 := Nat.pow_le_pow_right (by omega) H.c8
  induction m with
  | zero =>
    intro k b x2 x3 md hk h v
    have : k = kn := by omega
    subst this
    exact ⟨0, x2, x3, md, _, by omega, fun n => rfl, h, v⟩
  | succ m ih =>
    intro k b x2 x3 md hk h v
    obtain ⟨s1, y2, y3, m2, hs1, e1, r1, v1⟩ := f_rows (k := k) H IH hr0 hrr hrc hpl hrl hu hlb (by omega) 256 (rest + 1) rest b x2 x3 md (by unfold nxt; rw [if_pos (by omega)]) (by omega) (Nat.and_self rest) (Nat.le_refl _) (by omega) (by omega) h v
    obtain ⟨s2, z2, z3, m3, w3, hs2, e2, r2, v2⟩ := ih (k + 1) _ y2 y3 m2 (by omega) r1 v1
    refine ⟨s1 + s2, z2, z3, m3, w3, ?_, fun n => by rw [show n + (s1 + s2) = (n + s2) + s1 from by omega, e1, e2], ?_, v2⟩
    · have hpow := hbit_pow hr0 hrr
      have hlt := hbit_lt rest
      have h4 : (rest + 1 - hbit rest) * (stT r + 2) ≤ 2 ^ r * (stT r + 2) := Nat.mul_le_mul_right _ (by omega)
      rw [Nat.succ_mul]
      omega
    · rw [List.range'_succ, List.foldl_cons]
      have ek : oneKind (srch kn sz (sS c g) r) sz (sS c g) rest left pre (16 * u + pre.length) b k = (if left k = 0 then b else (rowsF rest (hbit rest) 256 rest).foldl (oneRow (srch kn sz (sS c g) r) (sS c g) (sz k) k rest (decK left k) pre (16 * u + pre.length + (16 * sz k + 1))) b) := rfl
      rw [ek]
      exact r2
theorem f_frame (H : HM kn c d sz g m0) : ∀ r, Frm kn c d sz g m0 r := by
  intro r
  induction r with
  | zero => intro rest left pre rl b x2 x3 md u h1 h2; omega
  | succ r ih =>
    intro rest left pre rl b x2 x3 md u hr0 hrr hrc hpl hrl hu hlb h v
    obtain ⟨s, y2, y3, m2, w2, hs, e, r2, v2⟩ := f_kinds H ih hr0 hrr hrc hpl hrl hu hlb kn 0 b x2 x3 md (by omega) h v
    refine ⟨s, y2, y3, m2, w2, ?_, e, ?_, v2⟩
    · simp only [stT]
      have := Nat.mul_le_mul_right (2 ^ r * (stT r + 2) + 1) H.k3
      omega
    · simp only [srch]
      rw [List.range_eq_range']
      exact r2
end MB
