section CU
variable {d c F : Nat} {ln g : Nat → Nat} {B0 B : List Bar} {asg : Nat → Option Nat} {pl0 pl md0 md : MS}
theorem wr_out {kn : Nat} {sz : Nat → Nat} {W : Way} {lw : MS} (hF : F + c ≤ 60) (hc : c ≤ 8) (hB0 : B0.length ≤ F) (hd : d < 41) (hk3 : kn ≤ 3) (hW : W.length ≤ c) (hz : ∀ k, k < kn → 1 ≤ sz k ∧ sz k ≤ 30000) (l2 : lw.1 2 = jI W.length) (lz : ∀ k, k < kn → lw.2.1 2 k = jI (sz k)) (l6 : ∀ (i : Nat) (x : Nat × Nat), W[i]? = some x → lw.2.1 6 i = jI x.1 ∧ lw.2.1 7 i = jI x.2) (m5 : ∀ k, k < kn → md0.2.2 5 (3 * d + k) = jL (sz k)) (y3 : Int64) (y5 : Int32) (y6 : Int64) :
    ∀ (m : Nat) (n i rest : Nat) (B : List Bar) (asg : Nat → Option Nat) (pl md : MS), i + m = W.length → m < n → vW kn rest (W.drop i) → rest < 256 → B.length = B0.length + i → CS d c F ln g B0 pl0 md0 B asg pl md → (∀ (i : Nat) (x : Nat × Nat), W[i]? = some x → md.2.1 14 i = jI x.1 ∧ md.2.1 15 i = jI x.2) → (∃ lf : Nat → Int, ∀ k, k < kn → md.2.1 9 k = jI (lf k)) → un c rest asg →
    ∃ w B2 asg2 pl2 m2, l_Lw_writeBest_3 n (jI F) (jI d) (jI i) lw pl = some (jI 1, pl2) ∧ l_Md_cutBest_431 n (jI d) (jI W.length) y3 y5 y6 (jI i) md = some (w, m2) ∧ CS d c F ln g B0 pl0 md0 B2 asg2 pl2 m2 ∧ B2.length = B0.length + W.length ∧ un c 0 asg2 := by
  intro m
  induction m with
  | zero =>
    intro n i rest B asg pl md hi hn hv hr hB cs h14 h9 hu
    obtain ⟨n, rfl⟩ : ∃ x, n = x + 1 := ⟨n - 1, by omega⟩
    have : i = W.length := by omega
    subst this
    rw [List.drop_length] at hv
    have hr0 : rest = 0 := hv
    subst hr0
    rw [l_Lw_writeBest_3, l_Md_cutBest_431, l2, if_pos (Int32.le_refl _), if_pos (Int32.le_refl _)]
    exact ⟨_, B, asg, pl, md, rfl, rfl, cs, hB, hu⟩
  | succ m ih =>
    intro n i rest B asg pl md hi hn hv hr hB cs h14 h9 hu
    obtain ⟨n, rfl⟩ : ∃ x, n = x + 1 := ⟨n - 1, by omega⟩
    have hiW : i < W.length := by omega
    have e0 := List.getElem?_eq_getElem hiW
    rw [List.drop_eq_getElem_cons hiW] at hv
    obtain ⟨v1, v2, v3, v4, v5, v6⟩ := hv
    have q6 := l6 i _ e0
    have q14 := h14 i _ e0
    have hzk := hz _ v1
    obtain ⟨lf, h9'⟩ := h9
    have nle : ¬ jI (W.length : Int) ≤ jI i := by simp (disch := omega) only [jI_lit, jL_lit, jI_n, jI_add, jI_sub, jI_mul, jI_neg, jL_add, jL_sub, jL_mul, jL_neg, jI_lt, jI_le, jI_eq, jL_lt, jL_le, jL_eq, jI_c, jI_64, jL_32, jI_div, jL_div, jx, bnd, if_true, if_false, if_pos, if_neg, Int.toNat_natCast, Int.reduceToNat, Int.add_zero, Int.zero_add, Int.reduceAdd, Int.reduceSub, Int.reduceMul, Int.reduceNeg, Int.reduceLT, Int.reduceLE, jI_rem, sI_1, sI_2, sA_1, sA_2, sA_3, sL_1, sL_2, sL_3, upd_a, updL_a, vaup_a, Nat.reduceEqDiff, Ab_sz, Ab_tx, Ab_ns, Ab_sn, Ab_sx, Ab_ru, Ab_nl, Ab_lsh, Ab_ld, Ab_lm, Ab_lg, Ab_pd, Ab_px, Ab_py, Ab_pz, Ab_kn, Ab_kl, Ab_km]; omega
    have i1 : ix (jI (i : Int)) 8 = true := jx (by omega) (by omega) (by omega)
    have i2 : ix (jI (i : Int)) 9 = true := jx (by omega) (by omega) (by omega)
    have e1 : (jI (i : Int)).toNatClampNeg = i := by rw [jI_c (by omega) (by omega)]; omega
    have i3 : ix (jI ((W[i]).1 : Int)) 3 = true := jx (by omega) (by omega) (by omega)
    have e3 : (jI ((W[i]).1 : Int)).toNatClampNeg = (W[i]).1 := by rw [jI_c (by omega) (by omega)]; omega
    have e8 : jI (i : Int) + 1 = jI ((i + 1 : Nat) : Int) := jI_add _ 1
    obtain ⟨pl2, m2, o1, o2, cs2, o3, o4⟩ := cs_open cs (by omega) (show (W[i]).1 < 3 by omega) hd (m5 _ v1) hzk.2 (h9' _ v1)
    have hlen2 : (B ++ [((d, sz (W[i]).1, ((sz (W[i]).1 : Nat) : Int), []) : Bar)]).length = B.length + 1 := by simp
    obtain ⟨va, wa, B3, asg3, pl3, m3, g1, g2, g3, g4, g5, g6⟩ := wr_in (d := d) (b := B.length) hF hc (show i < 8 by omega) (show (W[i]).2 < 256 by omega) hr v2 q6.2 (by omega) (jI d) (jI W.length) y5 y3 y6 (jI d) fu 0 _ asg pl2 m2 (by omega) (by unfold fu; omega) (by rw [hlen2]) (by rw [hlen2]; omega) cs2 (by rw [o4 15 (by omega) (by omega)]; exact q14.2) (fun q hq => ⟨fun h => by omega, fun _ => ⟨hu q hq, fun h => by
      have := cs.ag q hq B.length h
      omega⟩⟩)
    obtain ⟨w, B4, asg4, pl4, m4, k1, k2, k3, k4, k5⟩ := ih n (i + 1) (rest - (W[i]).2) B3 asg3 pl3 m3 (by omega) (by omega) v6 (by omega) (by rw [g4, hlen2, hB]; omega) g3 (fun j x hx => by
      rw [g6 14 (by omega), g6 15 (by omega), o4 14 (by omega) (by omega), o4 15 (by omega) (by omega)]; exact h14 j x hx) ⟨fun k => if k = (W[i]).1 then lf k - 1 else lf k, fun k hk => by
      rw [g6 9 (by omega), o3 k]
      show _ = jI (if k = (W[i]).1 then lf k - 1 else lf k)
      by_cases ek : k = (W[i]).1
      · rw [if_pos ek, if_pos ek, ek]
      · rw [if_neg ek, if_neg ek]; exact h9' k hk⟩ g5
    refine ⟨w, B4, asg4, pl4, m4, ?_, ?_, k3, k4, k5⟩
    · rw [l_Lw_writeBest_3, l2]
      simp only [nle, if_false, i1, e1, if_true, q6.1, i3, e3, lz _ v1]
      rw [o1]
      simp only [bnd]
      rw [if_neg (by rw [show (-2 : Int32) = jI (-2) from rfl, jI_eq (by omega) (by omega) (by omega) (by omega)]; omega)]
      have g1' : l_Lw_writeBest_43 fu (jI F) (jI d) (jI i) (jI B.length) (jI F) lw pl2 = some (va, pl3) := g1
      rw [g1', e8]
      exact k1
    · rw [l_Md_cutBest_431]
      simp only [nle, if_false, i2, e1, if_true, q14.1]
      rw [o2]
      simp only [bnd]
      have g2' : l_Md_cutBest_452 fu (jI d) (jI W.length) y3 y5 y6 (jI i) 0 m2 = some (wa, m3) := g2
      rw [g2', e8]
      exact k2
theorem cpy3 (f g : Nat → Int32) (k : Nat) (hk : k < 3) : va_cpy f g (0 : Int32).toNatClampNeg (0 : Int32).toNatClampNeg (3 : Int32).toNatClampNeg k = f k := by
  show (if 0 ≤ k ∧ k < 0 + 3 then f (0 + (k - 0)) else g k) = f k
  rw [if_pos (by omega)]
  congr 1; omega
theorem lw_cut {kn : Nat} {sz km : Nat → Nat} {sf lw : MS} (hF : F + c ≤ 60) (hc1 : 1 ≤ c) (hc : c ≤ 8) (hB0 : B0.length ≤ F) (hd : d < 41) (hk3 : kn ≤ 3) (hz : ∀ k, k < kn → 1 ≤ sz k ∧ sz k ≤ 30000) (hkm : ∀ k, k < kn → km k ≤ 20) (hg : ∀ q, q < c → g q ≤ 120000)
    (s0 : sf.1 0 = jI kn) (s1 : ∀ k, k < kn → sf.2.1 0 k = jI (sz k)) (s2 : ∀ k, k < kn → sf.2.1 1 k = jI (km k)) (m7 : md0.2.1 7 d = jI kn) (m5 : ∀ k, k < kn → md0.2.2 5 (3 * d + k) = jL (sz k)) (m9 : ∀ k, k < kn → md.2.1 9 k = jI (km k))
    (cs : CS d c F ln g B0 pl0 md0 B0 (fun _ => none) pl md) :
    ∃ (r : Int) (pl2 lw2 m2 : MS) (B2 : List Bar) (asg2 : Nat → Option Nat), f_Lw_cut pl lw sf (jI F) (jI d) = some (jI r, pl2, lw2) ∧ f_Md_cutBest md (jI d) = some (jI r, m2) ∧ CS d c F ln g B0 pl0 md0 B2 asg2 pl2 m2 ∧ (r = 0 ∨ (r = 1 ∧ (∀ q, q < c → asg2 q ≠ none) ∧ B2.length ≤ B0.length + c ∧ 0 < kn)) := by
  have hc8 : (2 : Nat) ^ c ≤ 2 ^ 8 := Nat.pow_le_pow_right (by omega) hc
  have hc2 : (2 : Nat) ^ 1 ≤ 2 ^ c := Nat.pow_le_pow_right (by omega) hc1
  have hSb : ∀ s, s < 2 ^ c → sS c g s ≤ 1000000 := fun s hs => by
    have h1 := bsum_b (f := fun j => g (c - 1 - j)) (m := 120000) s c (fun j hj => hg _ (by omega))
    have h2 : c * 120000 ≤ 8 * 120000 := Nat.mul_le_mul_right _ hc
    show bsum _ s c ≤ _
    omega
  obtain ⟨l6, hl6⟩ : ∃ z, z = sA (sA (sI lw 0 (sf.1 0)) 2 (va_cpy (sf.2.1 0) ((sI lw 0 (sf.1 0)).2.1 2) (0 : Int32).toNatClampNeg (0 : Int32).toNatClampNeg (3 : Int32).toNatClampNeg)) 3 (va_cpy (sf.2.1 1) ((sA (sI lw 0 (sf.1 0)) 2 (va_cpy (sf.2.1 0) ((sI lw 0 (sf.1 0)).2.1 2) (0 : Int32).toNatClampNeg (0 : Int32).toNatClampNeg (3 : Int32).toNatClampNeg)).2.1 3) (0 : Int32).toNatClampNeg (0 : Int32).toNatClampNeg (3 : Int32).toNatClampNeg) := ⟨_, rfl⟩
  have z6 : RZ kn sz km l6 := by
    rw [hl6]
    refine ⟨by simp (disch := omega) only [jI_lit, jL_lit, jI_n, jI_add, jI_sub, jI_mul, jI_neg, jL_add, jL_sub, jL_mul, jL_neg, jI_lt, jI_le, jI_eq, jL_lt, jL_le, jL_eq, jI_c, jI_64, jL_32, jI_div, jL_div, jx, bnd, if_true, if_false, if_pos, if_neg, Int.toNat_natCast, Int.reduceToNat, Int.add_zero, Int.zero_add, Int.reduceAdd, Int.reduceSub, Int.reduceMul, Int.reduceNeg, Int.reduceLT, Int.reduceLE, jI_rem, sI_1, sI_2, sA_1, sA_2, sA_3, sL_1, sL_2, sL_3, upd_a, updL_a, vaup_a, Nat.reduceEqDiff, Ab_sz, Ab_tx, Ab_ns, Ab_sn, Ab_sx, Ab_ru, Ab_nl, Ab_lsh, Ab_ld, Ab_lm, Ab_lg, Ab_pd, Ab_px, Ab_py, Ab_pz, Ab_kn, Ab_kl, Ab_km]; exact s0, fun k hk => ?_, fun k hk => ?_⟩
    · rw [sA_2, if_neg (by omega), sA_2, if_pos rfl, cpy3 _ _ k (by omega)]; exact s1 k hk
    · rw [sA_2, if_pos rfl, cpy3 _ _ k (by omega)]; exact s2 k hk
  obtain ⟨l7, e7, a7, b7⟩ := c_sumSets (pl := pl) (c := c) (f := fun k => g (c - 1 - k)) (from_ := F) hc (fun k hk => hg _ (by omega)) hF (fun k hk => by
    have := (cs.pp (c - 1 - k) (by omega)).2.1
    rw [show F + (c - 1 - k) = F + c - 1 - k from by omega] at this
    exact this) l6
  have z7 : RZ kn sz km l7 := ⟨by rw [a7.1]; exact z6.k0, by rw [a7.2 2 (by omega)]; exact z6.zi, by rw [a7.2 3 (by omega)]; exact z6.le⟩
  obtain ⟨l8, fl, e8, a8, b8, HWx⟩ := c_findFloors (S := sS c g) hc hk3 hz hkm hSb l7 z7 b7
  have rw0 : RW kn sz (sS c g) fl c km [] (268435456, []) (sI (sI l8 1 268435456) 2 0) := by
    refine ⟨?_, rfl, rfl, ?_, ?_, ?_, ?_, fun d x h => by simp at h, fun d x h => by simp at h⟩
    · simp (disch := omega) only [jI_lit, jL_lit, jI_n, jI_add, jI_sub, jI_mul, jI_neg, jL_add, jL_sub, jL_mul, jL_neg, jI_lt, jI_le, jI_eq, jL_lt, jL_le, jL_eq, jI_c, jI_64, jL_32, jI_div, jL_div, jx, bnd, if_true, if_false, if_pos, if_neg, Int.toNat_natCast, Int.reduceToNat, Int.add_zero, Int.zero_add, Int.reduceAdd, Int.reduceSub, Int.reduceMul, Int.reduceNeg, Int.reduceLT, Int.reduceLE, jI_rem, sI_1, sI_2, sA_1, sA_2, sA_3, sL_1, sL_2, sL_3, upd_a, updL_a, vaup_a, Nat.reduceEqDiff, Ab_sz, Ab_tx, Ab_ns, Ab_sn, Ab_sx, Ab_ru, Ab_nl, Ab_lsh, Ab_ld, Ab_lm, Ab_lg, Ab_pd, Ab_px, Ab_py, Ab_pz, Ab_kn, Ab_kl, Ab_km]; rw [a8.1]; exact z7.k0
    · intro s hs; simp (disch := omega) only [jI_lit, jL_lit, jI_n, jI_add, jI_sub, jI_mul, jI_neg, jL_add, jL_sub, jL_mul, jL_neg, jI_lt, jI_le, jI_eq, jL_lt, jL_le, jL_eq, jI_c, jI_64, jL_32, jI_div, jL_div, jx, bnd, if_true, if_false, if_pos, if_neg, Int.toNat_natCast, Int.reduceToNat, Int.add_zero, Int.zero_add, Int.reduceAdd, Int.reduceSub, Int.reduceMul, Int.reduceNeg, Int.reduceLT, Int.reduceLE, jI_rem, sI_1, sI_2, sA_1, sA_2, sA_3, sL_1, sL_2, sL_3, upd_a, updL_a, vaup_a, Nat.reduceEqDiff, Ab_sz, Ab_tx, Ab_ns, Ab_sn, Ab_sx, Ab_ru, Ab_nl, Ab_lsh, Ab_ld, Ab_lm, Ab_lg, Ab_pd, Ab_px, Ab_py, Ab_pz, Ab_kn, Ab_kl, Ab_km]; rw [a8.2 0 (by omega)]; exact b7 s hs
    · intro s hs; simp (disch := omega) only [jI_lit, jL_lit, jI_n, jI_add, jI_sub, jI_mul, jI_neg, jL_add, jL_sub, jL_mul, jL_neg, jI_lt, jI_le, jI_eq, jL_lt, jL_le, jL_eq, jI_c, jI_64, jL_32, jI_div, jL_div, jx, bnd, if_true, if_false, if_pos, if_neg, Int.toNat_natCast, Int.reduceToNat, Int.add_zero, Int.zero_add, Int.reduceAdd, Int.reduceSub, Int.reduceMul, Int.reduceNeg, Int.reduceLT, Int.reduceLE, jI_rem, sI_1, sI_2, sA_1, sA_2, sA_3, sL_1, sL_2, sL_3, upd_a, updL_a, vaup_a, Nat.reduceEqDiff, Ab_sz, Ab_tx, Ab_ns, Ab_sn, Ab_sx, Ab_ru, Ab_nl, Ab_lsh, Ab_ld, Ab_lm, Ab_lg, Ab_pd, Ab_px, Ab_py, Ab_pz, Ab_kn, Ab_kl, Ab_km]; exact b8 s hs
    · intro k hk; simp (disch := omega) only [jI_lit, jL_lit, jI_n, jI_add, jI_sub, jI_mul, jI_neg, jL_add, jL_sub, jL_mul, jL_neg, jI_lt, jI_le, jI_eq, jL_lt, jL_le, jL_eq, jI_c, jI_64, jL_32, jI_div, jL_div, jx, bnd, if_true, if_false, if_pos, if_neg, Int.toNat_natCast, Int.reduceToNat, Int.add_zero, Int.zero_add, Int.reduceAdd, Int.reduceSub, Int.reduceMul, Int.reduceNeg, Int.reduceLT, Int.reduceLE, jI_rem, sI_1, sI_2, sA_1, sA_2, sA_3, sL_1, sL_2, sL_3, upd_a, updL_a, vaup_a, Nat.reduceEqDiff, Ab_sz, Ab_tx, Ab_ns, Ab_sn, Ab_sx, Ab_ru, Ab_nl, Ab_lsh, Ab_ld, Ab_lm, Ab_lg, Ab_pd, Ab_px, Ab_py, Ab_pz, Ab_kn, Ab_kl, Ab_km]; rw [a8.2 2 (by omega)]; exact z7.zi k hk
    · intro k hk; simp (disch := omega) only [jI_lit, jL_lit, jI_n, jI_add, jI_sub, jI_mul, jI_neg, jL_add, jL_sub, jL_mul, jL_neg, jI_lt, jI_le, jI_eq, jL_lt, jL_le, jL_eq, jI_c, jI_64, jL_32, jI_div, jL_div, jx, bnd, if_true, if_false, if_pos, if_neg, Int.toNat_natCast, Int.reduceToNat, Int.add_zero, Int.zero_add, Int.reduceAdd, Int.reduceSub, Int.reduceMul, Int.reduceNeg, Int.reduceLT, Int.reduceLE, jI_rem, sI_1, sI_2, sA_1, sA_2, sA_3, sL_1, sL_2, sL_3, upd_a, updL_a, vaup_a, Nat.reduceEqDiff, Ab_sz, Ab_tx, Ab_ns, Ab_sn, Ab_sx, Ab_ru, Ab_nl, Ab_lsh, Ab_ld, Ab_lm, Ab_lg, Ab_pd, Ab_px, Ab_py, Ab_pz, Ab_kn, Ab_kl, Ab_km]; rw [a8.2 3 (by omega)]; exact z7.le k hk
  obtain ⟨l9, e9, r9⟩ := c_search HWx c 12 (2 ^ c - 1) km [] 0 (268435456, []) _ (by omega) (fun _ _ h => h) hkm (by omega) (by omega) (by omega) (by simp; omega) (by simp) (by simp) rw0
  have hsv := srch_v (kn := kn) (sz := sz) (S := sS c g) c (2 ^ c - 1) km [] 0 (268435456, []) (by omega)
  have HMx : HM kn c d sz g md := ⟨hk3, hc, hd, hz, hg, cs.mn, by rw [cs.km.2.1 7 (by omega)]; exact m7, fun j hj => by rw [cs.km.2.2 5 (by omega)]; exact m5 j hj, fun p hp => (cs.pp p hp).2.2.2⟩
  obtain ⟨m7x, hm7⟩ : ∃ z, z = sA (sA (sA md 11 (upd (md.2.1 11) 0 (jI ((2 ^ c - 1 : Nat) : Int)))) 12 (upd (md.2.1 12) 0 (jI 0))) 13 (upd (md.2.1 13) 0 (jI ((2 ^ c - 1 + 1 : Nat) : Int))) := ⟨_, rfl⟩
  have rb0 : RB kn md km [] [] (268435456, []) (jI 0) (jL (-1)) m7x := by
    rw [hm7]
    have fr0 : fr md md := ⟨rfl, rfl, fun _ _ _ _ _ _ _ => rfl⟩
    refine ⟨fr.sA (fr.sA (fr.sA fr0 _ (by omega)) _ (by omega)) _ (by omega), ?_, fun j x h => by simp at h, fun j x h => by simp at h, Or.inl ⟨rfl, rfl, rfl, rfl⟩, fun j x h => by simp at h⟩
    intro j hj; simp (disch := omega) only [jI_lit, jL_lit, jI_n, jI_add, jI_sub, jI_mul, jI_neg, jL_add, jL_sub, jL_mul, jL_neg, jI_lt, jI_le, jI_eq, jL_lt, jL_le, jL_eq, jI_c, jI_64, jL_32, jI_div, jL_div, jx, bnd, if_true, if_false, if_pos, if_neg, Int.toNat_natCast, Int.reduceToNat, Int.add_zero, Int.zero_add, Int.reduceAdd, Int.reduceSub, Int.reduceMul, Int.reduceNeg, Int.reduceLT, Int.reduceLE, jI_rem, sI_1, sI_2, sA_1, sA_2, sA_3, sL_1, sL_2, sL_3, upd_a, updL_a, vaup_a, Nat.reduceEqDiff, Ab_sz, Ab_tx, Ab_ns, Ab_sn, Ab_sx, Ab_ru, Ab_nl, Ab_lsh, Ab_ld, Ab_lm, Ab_lg, Ab_pd, Ab_px, Ab_py, Ab_pz, Ab_kn, Ab_kl, Ab_km]; exact m9 j hj
  have rv0 : RV ([] : Way).length (2 ^ c - 1) 0 (2 ^ c - 1 + 1) m7x := by
    rw [hm7]
    exact ⟨by simp (disch := omega) only [jI_lit, jL_lit, jI_n, jI_add, jI_sub, jI_mul, jI_neg, jL_add, jL_sub, jL_mul, jL_neg, jI_lt, jI_le, jI_eq, jL_lt, jL_le, jL_eq, jI_c, jI_64, jL_32, jI_div, jL_div, jx, bnd, if_true, if_false, if_pos, if_neg, Int.toNat_natCast, Int.reduceToNat, Int.add_zero, Int.zero_add, Int.reduceAdd, Int.reduceSub, Int.reduceMul, Int.reduceNeg, Int.reduceLT, Int.reduceLE, jI_rem, sI_1, sI_2, sA_1, sA_2, sA_3, sL_1, sL_2, sL_3, upd_a, updL_a, vaup_a, Nat.reduceEqDiff, Ab_sz, Ab_tx, Ab_ns, Ab_sn, Ab_sx, Ab_ru, Ab_nl, Ab_lsh, Ab_ld, Ab_lm, Ab_lg, Ab_pd, Ab_px, Ab_py, Ab_pz, Ab_kn, Ab_kl, Ab_km, List.length_nil], by simp (disch := omega) only [jI_lit, jL_lit, jI_n, jI_add, jI_sub, jI_mul, jI_neg, jL_add, jL_sub, jL_mul, jL_neg, jI_lt, jI_le, jI_eq, jL_lt, jL_le, jL_eq, jI_c, jI_64, jL_32, jI_div, jL_div, jx, bnd, if_true, if_false, if_pos, if_neg, Int.toNat_natCast, Int.reduceToNat, Int.add_zero, Int.zero_add, Int.reduceAdd, Int.reduceSub, Int.reduceMul, Int.reduceNeg, Int.reduceLT, Int.reduceLE, jI_rem, sI_1, sI_2, sA_1, sA_2, sA_3, sL_1, sL_2, sL_3, upd_a, updL_a, vaup_a, Nat.reduceEqDiff, Ab_sz, Ab_tx, Ab_ns, Ab_sn, Ab_sx, Ab_ru, Ab_nl, Ab_lsh, Ab_ld, Ab_lm, Ab_lg, Ab_pd, Ab_px, Ab_py, Ab_pz, Ab_kn, Ab_kl, Ab_km, List.length_nil]; rfl, by simp (disch := omega) only [jI_lit, jL_lit, jI_n, jI_add, jI_sub, jI_mul, jI_neg, jL_add, jL_sub, jL_mul, jL_neg, jI_lt, jI_le, jI_eq, jL_lt, jL_le, jL_eq, jI_c, jI_64, jL_32, jI_div, jL_div, jx, bnd, if_true, if_false, if_pos, if_neg, Int.toNat_natCast, Int.reduceToNat, Int.add_zero, Int.zero_add, Int.reduceAdd, Int.reduceSub, Int.reduceMul, Int.reduceNeg, Int.reduceLT, Int.reduceLE, jI_rem, sI_1, sI_2, sA_1, sA_2, sA_3, sL_1, sL_2, sL_3, upd_a, updL_a, vaup_a, Nat.reduceEqDiff, Ab_sz, Ab_tx, Ab_ns, Ab_sn, Ab_sx, Ab_ru, Ab_nl, Ab_lsh, Ab_ld, Ab_lm, Ab_lg, Ab_pd, Ab_px, Ab_py, Ab_pz, Ab_kn, Ab_kl, Ab_km, List.length_nil]⟩
  obtain ⟨s, x2', x3', m8, w8, hs8, e10, r10, v10⟩ := f_frame HMx c (2 ^ c - 1) km [] [] (268435456, []) (jI 0) (jL (-1)) m7x 0 (by omega) (by omega) (by omega) (by simp; omega) rfl (by simp) hkm rb0 rv0
  have hT : stT c ≤ 10000000000000 := by
    have : c = 1 ∨ c = 2 ∨ c = 3 ∨ c = 4 ∨ c = 5 ∨ c = 6 ∨ c = 7 ∨ c = 8 := by omega
    rcases this with rfl | rfl | rfl | rfl | rfl | rfl | rfl | rfl <;> decide
  have e10' : l_Md_cutBest_47 fu (jI d) 0 (-1) 0 0 m7x = some (x2', x3', jI (-1), jL 0, m8) := by
    obtain ⟨n, hn⟩ := fu_k (s + 2) (by omega)
    have h1 := e10 (n + 2)
    rw [hn, show n + (s + 2) = n + 2 + s from by omega]
    have h2 : l_Md_cutBest_47 (n + 2 + s) (jI d) 0 (-1) 0 0 m7x = l_Md_cutBest_47 (n + 2) (jI d) x2' x3' (jI 0) (jL 0) m8 := h1
    rw [h2]
    have hkd : m8.2.1 7 d = jI kn := by rw [r10.f.2.2 7 (by omega) (by omega) (by omega) (by omega) (by omega) (by omega)]; exact HMx.kd
    have hwk : m8.2.1 12 0 = jI kn := v10.wk
    have i1 : ix (jI 0) 9 = true := rfl
    have i2 : ix (jI (d : Int)) 41 = true := jx (by omega) (by omega) (by omega)
    have e1 : (jI 0).toNatClampNeg = 0 := rfl
    have e2 : (jI (d : Int)).toNatClampNeg = d := by rw [jI_c (by omega) (by omega)]; omega
    rw [show n + 2 = (n + 1) + 1 from rfl, cb_eq, if_neg (show ¬ jI 0 < 0 by decide)]
    simp only [i1, i2, e1, e2, hkd, hwk, bnd, if_true]
    unfold cbPop
    rw [show jI 0 + (-1) = jI (-1) from rfl, if_pos (show jI (-1) < 0 by decide), cb_eq, if_pos (show jI (-1) < 0 by decide)]
  have hbest : f_Md_cutBest md (jI d) = (l_Md_cutBest_431 fu (jI d) x2' x3' (jI (-1)) (jL 0) 0 m8).bind fun q72 => (if x3' < 0 then some (0, q72.2) else some (1, q72.2)) := by
    unfold f_Md_cutBest
    rw [show ix 0 9 = true from rfl]
    simp only [if_true, bnd, show (0 : Int32).toNatClampNeg = 0 from rfl]
    rw [cs.mn, sh_1 c (by omega), show jI ((2 ^ c : Nat) : Int) - 1 = jI ((2 ^ c - 1 : Nat) : Int) from by rw [show (1 : Int32) = jI 1 from rfl, jI_sub]; congr 1; omega]
    have hx : sA (sA (sA md 11 (upd (md.2.1 11) 0 (jI ((2 ^ c - 1 : Nat) : Int)))) 12 (upd ((sA md 11 (upd (md.2.1 11) 0 (jI ((2 ^ c - 1 : Nat) : Int)))).2.1 12) 0 0)) 13 (upd ((sA (sA md 11 (upd (md.2.1 11) 0 (jI ((2 ^ c - 1 : Nat) : Int)))) 12 (upd ((sA md 11 (upd (md.2.1 11) 0 (jI ((2 ^ c - 1 : Nat) : Int)))).2.1 12) 0 0)).2.1 13) 0 ((sA (sA md 11 (upd (md.2.1 11) 0 (jI ((2 ^ c - 1 : Nat) : Int)))) 12 (upd ((sA md 11 (upd (md.2.1 11) 0 (jI ((2 ^ c - 1 : Nat) : Int)))).2.1 12) 0 0)).2.1 11 0 + 1)) = m7x := by
      rw [hm7]
      have : jI ((2 ^ c - 1 : Nat) : Int) + 1 = jI ((2 ^ c - 1 + 1 : Nat) : Int) := jI_add _ 1
      rw [← this]
      rfl
    rw [hx, e10']
    rfl
  have hcut : ∀ b : Bst, b = srch kn sz (sS c g) c (2 ^ c - 1) km [] 0 (268435456, []) → f_Lw_cut pl lw sf (jI F) (jI d) = (if jI b.1 = 268435456 then some (0, pl, l9) else (f_Lw_writeBest l9 pl (jI F) (jI d)).bind fun q13 => if q13.1 = 0 ∨ q13.1 = 1 then some (q13.1, q13.2, l9) else none) := fun b hb => by
    have hbv := r9.bv
    rw [← hb] at hbv
    unfold f_Lw_cut
    rw [cs.pn, show jI ((F + c : Nat) : Int) - jI F = jI c from by rw [jI_sub]; congr 1; omega]
    simp only [bnd]
    rw [if_neg (by simp (disch := omega) only [jI_lit, jL_lit, jI_n, jI_add, jI_sub, jI_mul, jI_neg, jL_add, jL_sub, jL_mul, jL_neg, jI_lt, jI_le, jI_eq, jL_lt, jL_le, jL_eq, jI_c, jI_64, jL_32, jI_div, jL_div, jx, bnd, if_true, if_false, if_pos, if_neg, Int.toNat_natCast, Int.reduceToNat, Int.add_zero, Int.zero_add, Int.reduceAdd, Int.reduceSub, Int.reduceMul, Int.reduceNeg, Int.reduceLT, Int.reduceLE, jI_rem, sI_1, sI_2, sA_1, sA_2, sA_3, sL_1, sL_2, sL_3, upd_a, updL_a, vaup_a, Nat.reduceEqDiff, Ab_sz, Ab_tx, Ab_ns, Ab_sn, Ab_sx, Ab_ru, Ab_nl, Ab_lsh, Ab_ld, Ab_lm, Ab_lg, Ab_pd, Ab_px, Ab_py, Ab_pz, Ab_kn, Ab_kl, Ab_km]; omega), if_pos (by simp (disch := omega) only [jI_lit, jL_lit, jI_n, jI_add, jI_sub, jI_mul, jI_neg, jL_add, jL_sub, jL_mul, jL_neg, jI_lt, jI_le, jI_eq, jL_lt, jL_le, jL_eq, jI_c, jI_64, jL_32, jI_div, jL_div, jx, bnd, if_true, if_false, if_pos, if_neg, Int.toNat_natCast, Int.reduceToNat, Int.add_zero, Int.zero_add, Int.reduceAdd, Int.reduceSub, Int.reduceMul, Int.reduceNeg, Int.reduceLT, Int.reduceLE, jI_rem, sI_1, sI_2, sA_1, sA_2, sA_3, sL_1, sL_2, sL_3, upd_a, updL_a, vaup_a, Nat.reduceEqDiff, Ab_sz, Ab_tx, Ab_ns, Ab_sn, Ab_sx, Ab_ru, Ab_nl, Ab_lsh, Ab_ld, Ab_lm, Ab_lg, Ab_pd, Ab_px, Ab_py, Ab_pz, Ab_kn, Ab_kl, Ab_km]; omega), ← hl6, e7]
    simp only [bnd]
    rw [e8]
    simp only [bnd]
    rw [sh_1 c (by omega), show jI ((2 ^ c : Nat) : Int) - 1 = jI ((2 ^ c - 1 : Nat) : Int) from by rw [show (1 : Int32) = jI 1 from rfl, jI_sub]; congr 1; omega]
    have e9' : f_Lw_search 12 (sI (sI l8 1 268435456) 2 0) 0 (jI ((2 ^ c - 1 : Nat) : Int)) 0 = some ((), l9) := e9
    rw [e9']
    simp only [bnd]
    rw [hbv]
  have r10' : RB kn md km [] [] (srch kn sz (sS c g) c (2 ^ c - 1) km [] 0 (268435456, [])) x2' x3' m8 := r10
  have csm := cs_fr cs r10.f
  have hle := srch_le (kn := kn) (sz := sz) (S := sS c g) c (2 ^ c - 1) km [] 0 (268435456, [])
  generalize hb : srch kn sz (sS c g) c (2 ^ c - 1) km [] 0 (268435456, []) = b at hsv r9 r10' hle
  have hcut := hcut b hb.symm
  rcases hsv with hsv | ⟨W, w1, w2, w3⟩
  · 
    subst hsv
    have hx3 : x3' = jL (-1) ∧ x2' = jI 0 := by
      rcases r10'.bs with ⟨-, -, h1, h2⟩ | ⟨L, h1, h2, -⟩
      · exact ⟨h1, h2⟩
      · simp at h1; omega
    refine ⟨0, pl, l9, m8, B0, fun _ => none, ?_, ?_, csm, Or.inl rfl⟩
    · rw [hcut, if_pos (show jI ((268435456 : Nat) : Int) = 268435456 from rfl)]; rfl
    · rw [hbest, hx3.1, hx3.2]
      obtain ⟨n, hn⟩ := fu_k 1 (by omega)
      rw [hn, l_Md_cutBest_431, if_pos (show jI 0 ≤ 0 by decide), bnd, if_pos (show jL (-1) < 0 by decide)]
      rfl
  · 
    have hbW : b.2 = W := by rw [w1]; rfl
    simp only at w3
    have hWl := vW_len W (2 ^ c - 1) c w2 (by omega)
    obtain ⟨L, x1e, x1b, x1c, x1d, x1f⟩ : ∃ L : Nat, b.1 = 16 * L + b.2.length ∧ L ≤ 1000000 ∧ x3' = jL L ∧ x2' = jI b.2.length ∧ b.2.length ≤ 8 := by
      rcases r10'.bs with ⟨h1, -⟩ | h1
      · omega
      · exact h1
    have hbb := r9.bb
    have hwk := r9.wk
    have hbk := r10'.bk
    rw [hbW] at hbb hwk hbk x1d
    obtain ⟨w, B2, asg2, pl2, m2, g1, g2, g3, g4, g5⟩ := wr_out (y3 := x3') (y5 := jI (-1)) (y6 := jL 0) hF hc hB0 hd hk3 hWl hz hbb (fun k hk => r9.zi k hk) hwk m5 W.length fu 0 (2 ^ c - 1) B0 (fun _ => none) pl m8 (by omega) (by unfold fu; omega) w2 (by omega) rfl csm hbk ⟨fun k => km k, fun k hk => r10'.le k hk⟩ (fun q hq => by
      constructor
      · intro _; rfl
      · intro _
        rw [Nat.testBit_two_pow_sub_one]
        simp; omega)
    refine ⟨1, pl2, l9, m2, B2, asg2, ?_, ?_, g3, Or.inr ⟨rfl, fun q hq h => ?_, by omega, ?_⟩⟩
    · rw [hcut, if_neg (by rw [show (268435456 : Int32) = jI 268435456 from rfl, jI_eq (by omega) (by omega) (by omega) (by omega)]; omega)]
      unfold f_Lw_writeBest
      have g1' : l_Lw_writeBest_3 fu (jI F) (jI d) 0 l9 pl = some (jI 1, pl2) := g1
      rw [g1']; rfl
    · rw [hbest, x1d]
      have g2' : l_Md_cutBest_431 fu (jI d) (jI W.length) x3' (jI (-1)) (jL 0) 0 m8 = some (w, m2) := g2
      rw [g2', bnd, x1c, if_neg (by rw [show (0 : Int64) = jL 0 from rfl, jL_lt (by omega) (by omega) (by omega) (by omega)]; omega)]
      rfl
    · have := (g5 q hq).mpr h
      simp at this
    · cases W with
      | nil => have : 2 ^ c - 1 = 0 := w2; omega
      | cons x W => have := w2.1; omega
end CU
