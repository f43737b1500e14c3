def wdir : Nat → Int × Int
  | 0 => (1, 0)
  | 1 => (0, 1)
  | 2 => (-1, 0)
  | _ => (0, -1)
def wturn (c w : Nat) : Nat := if c = 76 then (w + 1) % 4 else if c = 82 then (w + 3) % 4 else if c = 85 then (w + 2) % 4 else w
def wat (x : Nat → Nat) : Nat → Nat
  | 0 => 0
  | k + 1 => wturn (x (2 * k + 1)) (wat x k)
abbrev Wst : Type := Int × Int × Bool
def ustep (x : Nat → Nat) (d : Nat) (k : Nat) : List Wst := if k = 0 then [] else if x (2 * k - 1) = 85 then [(3 * d * (wdir ((wat x (k - 1) + 1) % 4)).1, 3 * d * (wdir ((wat x (k - 1) + 1) % 4)).2, false)] else []
def stps (x : Nat → Nat) (d : Nat) (g : Nat → Nat) : Nat → List Wst
  | 0 => []
  | k + 1 => stps x d g k ++ ustep x d k ++ [((wdir (wat x k)).1 * g k, (wdir (wat x k)).2 * g k, true)]
theorem wat_lt (x : Nat → Nat) : ∀ k, wat x k < 4 := by
  intro k
  induction k with
  | zero => show 0 < 4; omega
  | succ k ih => simp only [wat, wturn]; (repeat' split) <;> omega
theorem wdir_b (w : Nat) : (wdir w).1 = 0 ∨ (wdir w).1 = 1 ∨ (wdir w).1 = -1 := by
  unfold wdir; split <;> simp
theorem wdir_c (w : Nat) : (wdir w).2 = 0 ∨ (wdir w).2 = 1 ∨ (wdir w).2 = -1 := by
  unfold wdir; split <;> simp
theorem wL {w : Nat} (h : w < 4) : wdir ((w + 1) % 4) = (-(wdir w).2, (wdir w).1) := by
  have : w = 0 ∨ w = 1 ∨ w = 2 ∨ w = 3 := by omega
  rcases this with rfl | rfl | rfl | rfl <;> rfl
theorem wR {w : Nat} (h : w < 4) : wdir ((w + 3) % 4) = ((wdir w).2, -(wdir w).1) := by
  have : w = 0 ∨ w = 1 ∨ w = 2 ∨ w = 3 := by omega
  rcases this with rfl | rfl | rfl | rfl <;> rfl
theorem wU {w : Nat} (h : w < 4) : wdir ((w + 2) % 4) = (-(wdir w).1, -(wdir w).2) := by
  have : w = 0 ∨ w = 1 ∨ w = 2 ∨ w = 3 := by omega
  rcases this with rfl | rfl | rfl | rfl <;> rfl
theorem stps_len (x : Nat → Nat) (d : Nat) (g : Nat → Nat) : ∀ k, (stps x d g k).length ≤ 2 * k - 1 ∧ k ≤ (stps x d g k).length := by
  intro k
  induction k with
  | zero => simp [stps]
  | succ k ih =>
    have h : (ustep x d k).length ≤ (if k = 0 then 0 else 1) := by
      unfold ustep; (repeat' split) <;> simp
    simp only [stps, List.length_append, List.length_cons, List.length_nil]
    split at h <;> omega
theorem stps_b (x : Nat → Nat) (d : Nat) (g : Nat → Nat) (hd : d ≤ 40) (hg : ∀ k, k < 6 → g k ≤ 20000) : ∀ k, k ≤ 6 → ∀ s ∈ stps x d g k, -20000 ≤ s.1 ∧ s.1 ≤ 20000 ∧ -20000 ≤ s.2.1 ∧ s.2.1 ≤ 20000 := by
  intro k
  induction k with
  | zero => intro _ s h; simp [stps] at h
  | succ k ih =>
    intro hk s hs
    simp only [stps, List.mem_append, List.mem_singleton] at hs
    rcases hs with (hs | hs) | hs
    · exact ih (by omega) s hs
    · unfold ustep at hs
      split at hs
      · simp at hs
      · split at hs
        · simp at hs
          subst hs
          rcases wdir_b ((wat x (k - 1) + 1) % 4) with h | h | h <;> rcases wdir_c ((wat x (k - 1) + 1) % 4) with h' | h' | h' <;> simp only [h, h'] <;> omega
        · simp at hs
    · subst hs
      have := hg k (by omega)
      rcases wdir_b (wat x k) with h | h | h <;> rcases wdir_c (wat x k) with h' | h' | h' <;> simp only [h, h'] <;> omega
def sumX (L : List Wst) : Int := (L.map (·.1)).sum
def sumY (L : List Wst) : Int := (L.map (·.2.1)).sum
theorem sumX_b (L : List Wst) (h : ∀ s ∈ L, -20000 ≤ s.1 ∧ s.1 ≤ 20000 ∧ -20000 ≤ s.2.1 ∧ s.2.1 ≤ 20000) : -20000 * (L.length : Int) ≤ sumX L ∧ sumX L ≤ 20000 * (L.length : Int) ∧ -20000 * (L.length : Int) ≤ sumY L ∧ sumY L ≤ 20000 * (L.length : Int) := by
  induction L with
  | nil => simp [sumX, sumY]
  | cons s L ih =>
    have h1 := h s (by simp)
    have h2 := ih (fun t ht => h t (by simp [ht]))
    simp only [sumX, sumY, List.map_cons, List.sum_cons, List.length_cons] at h2 ⊢
    omega
theorem sumX_a (L : List Wst) (s : Wst) : sumX (L ++ [s]) = sumX L + s.1 ∧ sumY (L ++ [s]) = sumY L + s.2.1 := by
  simp [sumX, sumY]
def RT (X Y : Int) (L : List Wst) (tr : MS) : Prop := (tr.1 0 = jI L.length) ∧ (tr.1 1 = jI (X + sumX L)) ∧ (tr.1 2 = jI (Y + sumY L)) ∧ (∀ j s, L[j]? = some s → tr.2.1 0 j = jI (X + sumX (L.take j)) ∧ tr.2.1 1 j = jI (Y + sumY (L.take j)) ∧ tr.2.1 2 j = jI s.1 ∧ tr.2.1 3 j = jI s.2.1 ∧ tr.2.1 4 j = jI (b01 s.2.2))
theorem RT.n {X Y : Int} {L : List Wst} {tr : MS} (h9 : RT X Y L tr) : tr.1 0 = jI L.length := h9.1
theorem RT.x {X Y : Int} {L : List Wst} {tr : MS} (h9 : RT X Y L tr) : tr.1 1 = jI (X + sumX L) := h9.2.1
theorem RT.y {X Y : Int} {L : List Wst} {tr : MS} (h9 : RT X Y L tr) : tr.1 2 = jI (Y + sumY L) := h9.2.2.1
theorem RT.t {X Y : Int} {L : List Wst} {tr : MS} (h9 : RT X Y L tr) : ∀ j s, L[j]? = some s → tr.2.1 0 j = jI (X + sumX (L.take j)) ∧ tr.2.1 1 j = jI (Y + sumY (L.take j)) ∧ tr.2.1 2 j = jI s.1 ∧ tr.2.1 3 j = jI s.2.1 ∧ tr.2.1 4 j = jI (b01 s.2.2) := h9.2.2.2
theorem RT.mk {X Y : Int} {L : List Wst} {tr : MS} (u_n : tr.1 0 = jI L.length) (u_x : tr.1 1 = jI (X + sumX L)) (u_y : tr.1 2 = jI (Y + sumY L)) (u_t : ∀ j s, L[j]? = some s → tr.2.1 0 j = jI (X + sumX (L.take j)) ∧ tr.2.1 1 j = jI (Y + sumY (L.take j)) ∧ tr.2.1 2 j = jI s.1 ∧ tr.2.1 3 j = jI s.2.1 ∧ tr.2.1 4 j = jI (b01 s.2.2)) : RT X Y L tr := ⟨u_n, u_x, u_y, u_t⟩
theorem get_app {α : Type} (L : List α) (s : α) (j : Nat) (q : α) (h : (L ++ [s])[j]? = some q) : (j < L.length ∧ L[j]? = some q) ∨ (j = L.length ∧ s = q) := by
  by_cases c : j < L.length
  · rw [List.getElem?_append_left c] at h; exact Or.inl ⟨c, h⟩
  · rw [List.getElem?_append_right (by omega)] at h
    have : j - L.length = 0 := by
      have := (List.getElem?_eq_some_iff.mp h).1
      simp at this; omega
    rw [this] at h
    simp at h
    exact Or.inr ⟨by omega, h⟩
theorem nar_b (b : Bool) : vp_nar .boolean (jI (b01 b)) = jI (b01 b) := by cases b <;> decide +kernel
theorem c_go {X Y : Int} {L : List Wst} {tr : MS} (h : RT X Y L tr) (hl : L.length < 11) (s : Wst) : ∃ t2, f_Tr_go tr (jI s.1) (jI s.2.1) (jI (b01 s.2.2)) = some ((), t2) ∧ RT X Y (L ++ [s]) t2 := by
  refine ⟨sI (sI (sI (sA (sA (sA (sA (sA tr 0 (upd (tr.2.1 0) L.length (jI (X + sumX L)))) 1 (upd (tr.2.1 1) L.length (jI (Y + sumY L)))) 2 (upd (tr.2.1 2) L.length (jI s.1))) 3 (upd (tr.2.1 3) L.length (jI s.2.1))) 4 (upd (tr.2.1 4) L.length (jI (b01 s.2.2)))) 1 (jI (X + sumX L + s.1))) 2 (jI (Y + sumY L + s.2.1))) 0 (jI (L.length + 1)), ?_, ?_⟩
  · unfold f_Tr_go
    simp (disch := omega) only [jI_lit, jL_lit, jI_n, jI_add, jI_sub, jI_mul, jI_neg, jL_add, jL_sub, jL_mul, jL_neg, jI_lt, jI_le, jI_eq, jL_lt, jL_le, jL_eq, jI_c, jI_64, jL_32, jI_div, jL_div, jx, bnd, if_true, if_false, if_pos, if_neg, Int.toNat_natCast, Int.reduceToNat, Int.add_zero, Int.zero_add, Int.reduceAdd, Int.reduceSub, Int.reduceMul, Int.reduceNeg, Int.reduceLT, Int.reduceLE, jI_rem, sI_1, sI_2, sA_1, sA_2, sA_3, sL_1, sL_2, sL_3, upd_a, updL_a, vaup_a, Nat.reduceEqDiff, Ab_sz, Ab_tx, Ab_ns, Ab_sn, Ab_sx, Ab_ru, Ab_nl, Ab_lsh, Ab_ld, Ab_lm, Ab_lg, Ab_pd, Ab_px, Ab_py, Ab_pz, Ab_kn, Ab_kl, Ab_km, h.n, h.x, h.y, nar_b]
  · refine ⟨?_, ?_, ?_, ?_⟩
    · simp (disch := omega) only [jI_lit, jL_lit, jI_n, jI_add, jI_sub, jI_mul, jI_neg, jL_add, jL_sub, jL_mul, jL_neg, jI_lt, jI_le, jI_eq, jL_lt, jL_le, jL_eq, jI_c, jI_64, jL_32, jI_div, jL_div, jx, bnd, if_true, if_false, if_pos, if_neg, Int.toNat_natCast, Int.reduceToNat, Int.add_zero, Int.zero_add, Int.reduceAdd, Int.reduceSub, Int.reduceMul, Int.reduceNeg, Int.reduceLT, Int.reduceLE, jI_rem, sI_1, sI_2, sA_1, sA_2, sA_3, sL_1, sL_2, sL_3, upd_a, updL_a, vaup_a, Nat.reduceEqDiff, Ab_sz, Ab_tx, Ab_ns, Ab_sn, Ab_sx, Ab_ru, Ab_nl, Ab_lsh, Ab_ld, Ab_lm, Ab_lg, Ab_pd, Ab_px, Ab_py, Ab_pz, Ab_kn, Ab_kl, Ab_km]; simp
    · simp (disch := omega) only [jI_lit, jL_lit, jI_n, jI_add, jI_sub, jI_mul, jI_neg, jL_add, jL_sub, jL_mul, jL_neg, jI_lt, jI_le, jI_eq, jL_lt, jL_le, jL_eq, jI_c, jI_64, jL_32, jI_div, jL_div, jx, bnd, if_true, if_false, if_pos, if_neg, Int.toNat_natCast, Int.reduceToNat, Int.add_zero, Int.zero_add, Int.reduceAdd, Int.reduceSub, Int.reduceMul, Int.reduceNeg, Int.reduceLT, Int.reduceLE, jI_rem, sI_1, sI_2, sA_1, sA_2, sA_3, sL_1, sL_2, sL_3, upd_a, updL_a, vaup_a, Nat.reduceEqDiff, Ab_sz, Ab_tx, Ab_ns, Ab_sn, Ab_sx, Ab_ru, Ab_nl, Ab_lsh, Ab_ld, Ab_lm, Ab_lg, Ab_pd, Ab_px, Ab_py, Ab_pz, Ab_kn, Ab_kl, Ab_km]; rw [(sumX_a L s).1]; congr 1; omega
    · simp (disch := omega) only [jI_lit, jL_lit, jI_n, jI_add, jI_sub, jI_mul, jI_neg, jL_add, jL_sub, jL_mul, jL_neg, jI_lt, jI_le, jI_eq, jL_lt, jL_le, jL_eq, jI_c, jI_64, jL_32, jI_div, jL_div, jx, bnd, if_true, if_false, if_pos, if_neg, Int.toNat_natCast, Int.reduceToNat, Int.add_zero, Int.zero_add, Int.reduceAdd, Int.reduceSub, Int.reduceMul, Int.reduceNeg, Int.reduceLT, Int.reduceLE, jI_rem, sI_1, sI_2, sA_1, sA_2, sA_3, sL_1, sL_2, sL_3, upd_a, updL_a, vaup_a, Nat.reduceEqDiff, Ab_sz, Ab_tx, Ab_ns, Ab_sn, Ab_sx, Ab_ru, Ab_nl, Ab_lsh, Ab_ld, Ab_lm, Ab_lg, Ab_pd, Ab_px, Ab_py, Ab_pz, Ab_kn, Ab_kl, Ab_km]; rw [(sumX_a L s).2]; congr 1; omega
    · intro j q hq
      rcases get_app L s j q hq with ⟨c, e⟩ | ⟨c, e⟩
      · have := h.t j q e
        rw [List.take_append_of_le_length (by omega)]
        simp (disch := omega) only [jI_lit, jL_lit, jI_n, jI_add, jI_sub, jI_mul, jI_neg, jL_add, jL_sub, jL_mul, jL_neg, jI_lt, jI_le, jI_eq, jL_lt, jL_le, jL_eq, jI_c, jI_64, jL_32, jI_div, jL_div, jx, bnd, if_true, if_false, if_pos, if_neg, Int.toNat_natCast, Int.reduceToNat, Int.add_zero, Int.zero_add, Int.reduceAdd, Int.reduceSub, Int.reduceMul, Int.reduceNeg, Int.reduceLT, Int.reduceLE, jI_rem, sI_1, sI_2, sA_1, sA_2, sA_3, sL_1, sL_2, sL_3, upd_a, updL_a, vaup_a, Nat.reduceEqDiff, Ab_sz, Ab_tx, Ab_ns, Ab_sn, Ab_sx, Ab_ru, Ab_nl, Ab_lsh, Ab_ld, Ab_lm, Ab_lg, Ab_pd, Ab_px, Ab_py, Ab_pz, Ab_kn, Ab_kl, Ab_km]
        exact this
      · subst e; subst c
        rw [List.take_append_of_le_length (by omega), List.take_length]
        simp (disch := omega) only [jI_lit, jL_lit, jI_n, jI_add, jI_sub, jI_mul, jI_neg, jL_add, jL_sub, jL_mul, jL_neg, jI_lt, jI_le, jI_eq, jL_lt, jL_le, jL_eq, jI_c, jI_64, jL_32, jI_div, jL_div, jx, bnd, if_true, if_false, if_pos, if_neg, Int.toNat_natCast, Int.reduceToNat, Int.add_zero, Int.zero_add, Int.reduceAdd, Int.reduceSub, Int.reduceMul, Int.reduceNeg, Int.reduceLT, Int.reduceLE, jI_rem, sI_1, sI_2, sA_1, sA_2, sA_3, sL_1, sL_2, sL_3, upd_a, updL_a, vaup_a, Nat.reduceEqDiff, Ab_sz, Ab_tx, Ab_ns, Ab_sn, Ab_sx, Ab_ru, Ab_nl, Ab_lsh, Ab_ld, Ab_lm, Ab_lg, Ab_pd, Ab_px, Ab_py, Ab_pz, Ab_kn, Ab_kl, Ab_km]
        simp
def RD (md0 : MS) (L : List Wst) (md : MS) : Prop := (md.1 8 = jI L.length) ∧ (∀ j s, L[j]? = some s → md.2.2 9 j = jL s.1 ∧ md.2.2 10 j = jL s.2.1 ∧ md.2.1 19 j = jI (b01 s.2.2)) ∧ (Keep md0 md) ∧ (∀ k, 11 ≤ k → md.2.2 k = md0.2.2 k)
theorem RD.n {md0 : MS} {L : List Wst} {md : MS} (h9 : RD md0 L md) : md.1 8 = jI L.length := h9.1
theorem RD.t {md0 : MS} {L : List Wst} {md : MS} (h9 : RD md0 L md) : ∀ j s, L[j]? = some s → md.2.2 9 j = jL s.1 ∧ md.2.2 10 j = jL s.2.1 ∧ md.2.1 19 j = jI (b01 s.2.2) := h9.2.1
theorem RD.k {md0 : MS} {L : List Wst} {md : MS} (h9 : RD md0 L md) : Keep md0 md := h9.2.2.1
theorem RD.o {md0 : MS} {L : List Wst} {md : MS} (h9 : RD md0 L md) : ∀ k, 11 ≤ k → md.2.2 k = md0.2.2 k := h9.2.2.2
theorem RD.mk {md0 : MS} {L : List Wst} {md : MS} (u_n : md.1 8 = jI L.length) (u_t : ∀ j s, L[j]? = some s → md.2.2 9 j = jL s.1 ∧ md.2.2 10 j = jL s.2.1 ∧ md.2.1 19 j = jI (b01 s.2.2)) (u_k : Keep md0 md) (u_o : ∀ k, 11 ≤ k → md.2.2 k = md0.2.2 k) : RD md0 L md := ⟨u_n, u_t, u_k, u_o⟩
theorem m_go {md0 : MS} {L : List Wst} {md : MS} (h : RD md0 L md) (hl : L.length < 12) {w : Nat} (hw : w < 4) (f : Nat) (b : Bool) : ∃ m2, f_Md_go md (jI w) (jL f) (jI (b01 b)) = some ((), m2) ∧ RD md0 (L ++ [((wdir w).1 * f, (wdir w).2 * f, b)]) m2 := by
  refine ⟨sI (sA (sL (sL md 9 (vp_updL (md.2.2 9) L.length (jL ((wdir w).1 * f)))) 10 (vp_updL (md.2.2 10) L.length (jL ((wdir w).2 * f)))) 19 (upd (md.2.1 19) L.length (jI (b01 b)))) 8 (jI (L.length + 1)), ?_, ?_⟩
  · unfold f_Md_go
    have : w = 0 ∨ w = 1 ∨ w = 2 ∨ w = 3 := by omega
    rcases this with rfl | rfl | rfl | rfl <;> (simp only [wdir, Int.cast_ofNat_Int]; simp (disch := omega) only [jI_lit, jL_lit, jI_n, jI_add, jI_sub, jI_mul, jI_neg, jL_add, jL_sub, jL_mul, jL_neg, jI_lt, jI_le, jI_eq, jL_lt, jL_le, jL_eq, jI_c, jI_64, jL_32, jI_div, jL_div, jx, bnd, if_true, if_false, if_pos, if_neg, Int.toNat_natCast, Int.reduceToNat, Int.add_zero, Int.zero_add, Int.reduceAdd, Int.reduceSub, Int.reduceMul, Int.reduceNeg, Int.reduceLT, Int.reduceLE, jI_rem, sI_1, sI_2, sA_1, sA_2, sA_3, sL_1, sL_2, sL_3, upd_a, updL_a, vaup_a, Nat.reduceEqDiff, Ab_sz, Ab_tx, Ab_ns, Ab_sn, Ab_sx, Ab_ru, Ab_nl, Ab_lsh, Ab_ld, Ab_lm, Ab_lg, Ab_pd, Ab_px, Ab_py, Ab_pz, Ab_kn, Ab_kl, Ab_km, h.n, nar_b, Int.natCast_zero, Int.natCast_one, Int.zero_mul, Int.one_mul, Int.neg_mul])
  · refine ⟨?_, ?_, ?_, ?_⟩
    · simp (disch := omega) only [jI_lit, jL_lit, jI_n, jI_add, jI_sub, jI_mul, jI_neg, jL_add, jL_sub, jL_mul, jL_neg, jI_lt, jI_le, jI_eq, jL_lt, jL_le, jL_eq, jI_c, jI_64, jL_32, jI_div, jL_div, jx, bnd, if_true, if_false, if_pos, if_neg, Int.toNat_natCast, Int.reduceToNat, Int.add_zero, Int.zero_add, Int.reduceAdd, Int.reduceSub, Int.reduceMul, Int.reduceNeg, Int.reduceLT, Int.reduceLE, jI_rem, sI_1, sI_2, sA_1, sA_2, sA_3, sL_1, sL_2, sL_3, upd_a, updL_a, vaup_a, Nat.reduceEqDiff, Ab_sz, Ab_tx, Ab_ns, Ab_sn, Ab_sx, Ab_ru, Ab_nl, Ab_lsh, Ab_ld, Ab_lm, Ab_lg, Ab_pd, Ab_px, Ab_py, Ab_pz, Ab_kn, Ab_kl, Ab_km]; simp
    · intro j q hq
      rcases get_app L _ j q hq with ⟨c, e⟩ | ⟨c, e⟩
      · have := h.t j q e
        simp (disch := omega) only [jI_lit, jL_lit, jI_n, jI_add, jI_sub, jI_mul, jI_neg, jL_add, jL_sub, jL_mul, jL_neg, jI_lt, jI_le, jI_eq, jL_lt, jL_le, jL_eq, jI_c, jI_64, jL_32, jI_div, jL_div, jx, bnd, if_true, if_false, if_pos, if_neg, Int.toNat_natCast, Int.reduceToNat, Int.add_zero, Int.zero_add, Int.reduceAdd, Int.reduceSub, Int.reduceMul, Int.reduceNeg, Int.reduceLT, Int.reduceLE, jI_rem, sI_1, sI_2, sA_1, sA_2, sA_3, sL_1, sL_2, sL_3, upd_a, updL_a, vaup_a, Nat.reduceEqDiff, Ab_sz, Ab_tx, Ab_ns, Ab_sn, Ab_sx, Ab_ru, Ab_nl, Ab_lsh, Ab_ld, Ab_lm, Ab_lg, Ab_pd, Ab_px, Ab_py, Ab_pz, Ab_kn, Ab_kl, Ab_km]
        exact this
      · subst e; subst c
        simp (disch := omega) only [jI_lit, jL_lit, jI_n, jI_add, jI_sub, jI_mul, jI_neg, jL_add, jL_sub, jL_mul, jL_neg, jI_lt, jI_le, jI_eq, jL_lt, jL_le, jL_eq, jI_c, jI_64, jL_32, jI_div, jL_div, jx, bnd, if_true, if_false, if_pos, if_neg, Int.toNat_natCast, Int.reduceToNat, Int.add_zero, Int.zero_add, Int.reduceAdd, Int.reduceSub, Int.reduceMul, Int.reduceNeg, Int.reduceLT, Int.reduceLE, jI_rem, sI_1, sI_2, sA_1, sA_2, sA_3, sL_1, sL_2, sL_3, upd_a, updL_a, vaup_a, Nat.reduceEqDiff, Ab_sz, Ab_tx, Ab_ns, Ab_sn, Ab_sx, Ab_ru, Ab_nl, Ab_lsh, Ab_ld, Ab_lm, Ab_lg, Ab_pd, Ab_px, Ab_py, Ab_pz, Ab_kn, Ab_kl, Ab_km]
        simp
    · exact (((h.k.sL (by omega)).sL (by omega)).sA (by omega)).sI (by omega)
    · intro k hk; simp (disch := omega) only [jI_lit, jL_lit, jI_n, jI_add, jI_sub, jI_mul, jI_neg, jL_add, jL_sub, jL_mul, jL_neg, jI_lt, jI_le, jI_eq, jL_lt, jL_le, jL_eq, jI_c, jI_64, jL_32, jI_div, jL_div, jx, bnd, if_true, if_false, if_pos, if_neg, Int.toNat_natCast, Int.reduceToNat, Int.add_zero, Int.zero_add, Int.reduceAdd, Int.reduceSub, Int.reduceMul, Int.reduceNeg, Int.reduceLT, Int.reduceLE, jI_rem, sI_1, sI_2, sA_1, sA_2, sA_3, sL_1, sL_2, sL_3, upd_a, updL_a, vaup_a, Nat.reduceEqDiff, Ab_sz, Ab_tx, Ab_ns, Ab_sn, Ab_sx, Ab_ru, Ab_nl, Ab_lsh, Ab_ld, Ab_lm, Ab_lg, Ab_pd, Ab_px, Ab_py, Ab_pz, Ab_kn, Ab_kl, Ab_km]; exact h.o k hk
section Lines
variable {a : Ab} {nl : Nat} {nT : Nat → Nat} {LS TS : Nat → MS} {FP : Nat → Bool} {FS : Nat → MS} {bc sg tr tu ff pl lw md : MS}
abbrev lgs (a : Ab) (i : Nat) : Nat := (a.sn (a.lsh i) + 1) / 2
abbrev lst (a : Ab) (i k : Nat) : List Wst := stps (a.sx (a.lsh i)) (a.ld i) (a.lg i) k
def bch (x : Nat → Nat) (k : Nat) : Nat := if k = 0 then 32 else x (2 * k - 1)
theorem bch_w (x : Nat → Nat) (k : Nat) : wturn (bch x k) (wat x (k - 1)) = wat x k := by
  cases k with
  | zero => rfl
  | succ k => unfold bch; rw [if_neg (by omega), show 2 * (k + 1) - 1 = 2 * k + 1 from by omega]; rfl
theorem bch_u (x : Nat → Nat) (d k : Nat) : ustep x d k = if bch x k = 85 then [(3 * d * (wdir ((wat x (k - 1) + 1) % 4)).1, 3 * d * (wdir ((wat x (k - 1) + 1) % 4)).2, false)] else [] := by
  unfold ustep bch
  by_cases c : k = 0
  · simp [c]
  · simp [c]
theorem bch_c (ok : Ok a) {i : Nat} (hi : i < a.nl) {k : Nat} (hk : k < lgs a i) : bch (a.sx (a.lsh i)) k = 32 ∨ bch (a.sx (a.lsh i)) k = 76 ∨ bch (a.sx (a.lsh i)) k = 82 ∨ bch (a.sx (a.lsh i)) k = 85 := by
  have hL : lgs a i = (a.sn (a.lsh i) + 1) / 2 := rfl
  have b2 := ok.sn _ (ok.lsh i hi)
  unfold bch
  by_cases c : k = 0
  · simp [c]
  · rw [if_neg c]
    have := ok.sxo _ (ok.lsh i hi) (k - 1) (by omega)
    rw [show 2 * (k - 1) + 1 = 2 * k - 1 from by omega] at this
    exact Or.inr this
theorem c_bend (ok : Ok a) (rc : RC a nl nT LS TS FP FS bc sg) {i : Nat} (hi : i < a.nl) {k : Nat} (hk : k < lgs a i) : f_Sh_bendBefore (nT i) (TS i) (jI k) = some (jI (bch (a.sx (a.lsh i)) k)) := by
  have hL : lgs a i = (a.sn (a.lsh i) + 1) / 2 := rfl
  have b2 := ok.sn _ (ok.lsh i hi)
  have b3 := rc.nT i hi
  unfold f_Sh_bendBefore bch
  rw [b3]
  by_cases c : k = 0
  · subst c; rfl
  · simp (disch := omega) only [jI_lit, jL_lit, jI_n, jI_add, jI_sub, jI_mul, jI_neg, jL_add, jL_sub, jL_mul, jL_neg, jI_lt, jI_le, jI_eq, jL_lt, jL_le, jL_eq, jI_c, jI_64, jL_32, jI_div, jL_div, jx, bnd, if_true, if_false, if_pos, if_neg, Int.toNat_natCast, Int.reduceToNat, Int.add_zero, Int.zero_add, Int.reduceAdd, Int.reduceSub, Int.reduceMul, Int.reduceNeg, Int.reduceLT, Int.reduceLE, jI_rem, sI_1, sI_2, sA_1, sA_2, sA_3, sL_1, sL_2, sL_3, upd_a, updL_a, vaup_a, Nat.reduceEqDiff, Ab_sz, Ab_tx, Ab_ns, Ab_sn, Ab_sx, Ab_ru, Ab_nl, Ab_lsh, Ab_ld, Ab_lm, Ab_lg, Ab_pd, Ab_px, Ab_py, Ab_pz, Ab_kn, Ab_kl, Ab_km]
    rw [show (2 * (k : Int) - 1).toNat = 2 * k - 1 from by omega, (rc.ts i hi).tx _ (by omega)]
theorem c_turn {X Y : Int} {L : List Wst} {tr : MS} (h : RT X Y L tr) (hl : L.length < 11) {w : Nat} (hw : w < 4) {cb d : Nat} (hc : cb = 32 ∨ cb = 76 ∨ cb = 82 ∨ cb = 85) (hd : d ≤ 40) :
    ∃ t2, ((if jI cb = 76 then (some (-(jI (wdir w).2)) : Option Int32).bind fun v8 => some (jI (wdir w).1, v8, tr) else (if jI cb = 82 then (some (-(jI (wdir w).1)) : Option Int32).bind fun v9 => some (v9, jI (wdir w).2, tr) else (if jI cb = 85 then (some (3 * (jI d)) : Option Int32).bind fun v10 => (f_Tr_go tr ((-(jI (wdir w).2)) * v10) (jI (wdir w).1 * v10) 0).bind fun q11 => (some (-(jI (wdir w).1)) : Option Int32).bind fun v12 => (some (-(jI (wdir w).2)) : Option Int32).bind fun v13 => some (v13, v12, q11.2) else some (jI (wdir w).2, jI (wdir w).1, tr)))) : Option (Int32 × Int32 × MS)) = some (jI (wdir (wturn cb w)).2, jI (wdir (wturn cb w)).1, t2) ∧
      RT X Y (L ++ (if cb = 85 then [((3 * d * (wdir ((w + 1) % 4)).1 : Int), (3 * d * (wdir ((w + 1) % 4)).2 : Int), false)] else [])) t2 := by
  rcases hc with rfl | rfl | rfl | rfl
  · exact ⟨tr, rfl, by simpa using h⟩
  · refine ⟨tr, ?_, by simpa using h⟩
    rw [show wturn 76 w = (w + 1) % 4 from rfl, if_pos (show jI ((76 : Nat) : Int) = 76 from rfl), wL hw]
    simp (disch := omega) only [jI_lit, jL_lit, jI_n, jI_add, jI_sub, jI_mul, jI_neg, jL_add, jL_sub, jL_mul, jL_neg, jI_lt, jI_le, jI_eq, jL_lt, jL_le, jL_eq, jI_c, jI_64, jL_32, jI_div, jL_div, jx, bnd, if_true, if_false, if_pos, if_neg, Int.toNat_natCast, Int.reduceToNat, Int.add_zero, Int.zero_add, Int.reduceAdd, Int.reduceSub, Int.reduceMul, Int.reduceNeg, Int.reduceLT, Int.reduceLE, jI_rem, sI_1, sI_2, sA_1, sA_2, sA_3, sL_1, sL_2, sL_3, upd_a, updL_a, vaup_a, Nat.reduceEqDiff, Ab_sz, Ab_tx, Ab_ns, Ab_sn, Ab_sx, Ab_ru, Ab_nl, Ab_lsh, Ab_ld, Ab_lm, Ab_lg, Ab_pd, Ab_px, Ab_py, Ab_pz, Ab_kn, Ab_kl, Ab_km]
  · refine ⟨tr, ?_, by simpa using h⟩
    rw [show wturn 82 w = (w + 3) % 4 from rfl, if_neg (show ¬ jI ((82 : Nat) : Int) = 76 by decide), if_pos (show jI ((82 : Nat) : Int) = 82 from rfl), wR hw]
    simp (disch := omega) only [jI_lit, jL_lit, jI_n, jI_add, jI_sub, jI_mul, jI_neg, jL_add, jL_sub, jL_mul, jL_neg, jI_lt, jI_le, jI_eq, jL_lt, jL_le, jL_eq, jI_c, jI_64, jL_32, jI_div, jL_div, jx, bnd, if_true, if_false, if_pos, if_neg, Int.toNat_natCast, Int.reduceToNat, Int.add_zero, Int.zero_add, Int.reduceAdd, Int.reduceSub, Int.reduceMul, Int.reduceNeg, Int.reduceLT, Int.reduceLE, jI_rem, sI_1, sI_2, sA_1, sA_2, sA_3, sL_1, sL_2, sL_3, upd_a, updL_a, vaup_a, Nat.reduceEqDiff, Ab_sz, Ab_tx, Ab_ns, Ab_sn, Ab_sx, Ab_ru, Ab_nl, Ab_lsh, Ab_ld, Ab_lm, Ab_lg, Ab_pd, Ab_px, Ab_py, Ab_pz, Ab_kn, Ab_kl, Ab_km]
  · obtain ⟨t2, e1, r1⟩ := c_go h hl (3 * d * (wdir ((w + 1) % 4)).1, 3 * d * (wdir ((w + 1) % 4)).2, false)
    refine ⟨t2, ?_, by rw [if_pos rfl]; exact r1⟩
    rw [show wturn 85 w = (w + 2) % 4 from rfl, if_neg (show ¬ jI ((85 : Nat) : Int) = 76 by decide), if_neg (show ¬ jI ((85 : Nat) : Int) = 82 by decide), if_pos (show jI ((85 : Nat) : Int) = 85 from rfl), wU hw]
    rw [wL hw] at e1
    simp (disch := omega) only [jI_lit, jL_lit, jI_n, jI_add, jI_sub, jI_mul, jI_neg, jL_add, jL_sub, jL_mul, jL_neg, jI_lt, jI_le, jI_eq, jL_lt, jL_le, jL_eq, jI_c, jI_64, jL_32, jI_div, jL_div, jx, bnd, if_true, if_false, if_pos, if_neg, Int.toNat_natCast, Int.reduceToNat, Int.add_zero, Int.zero_add, Int.reduceAdd, Int.reduceSub, Int.reduceMul, Int.reduceNeg, Int.reduceLT, Int.reduceLE, jI_rem, sI_1, sI_2, sA_1, sA_2, sA_3, sL_1, sL_2, sL_3, upd_a, updL_a, vaup_a, Nat.reduceEqDiff, Ab_sz, Ab_tx, Ab_ns, Ab_sn, Ab_sx, Ab_ru, Ab_nl, Ab_lsh, Ab_ld, Ab_lm, Ab_lg, Ab_pd, Ab_px, Ab_py, Ab_pz, Ab_kn, Ab_kl, Ab_km]
    rw [show -(wdir w).2 * (3 * (d : Int)) = 3 * d * -(wdir w).2 from Int.mul_comm _ _, show (wdir w).1 * (3 * (d : Int)) = 3 * d * (wdir w).1 from Int.mul_comm _ _]
    rw [show jI 0 = jI (b01 false) from rfl, e1]
    rfl
theorem c_follL (ok : Ok a) (rc : RC a nl nT LS TS FP FS bc sg) {i : Nat} (hi : i < a.nl) : ∀ (n k : Nat) (tr : MS), k ≤ lgs a i → lgs a i - k < n → RT (a.px i) (a.py i) (lst a i k) tr →
    ∃ u v t2, l_Tr_follow_28 n (jI (wdir (wat (a.sx (a.lsh i)) (k - 1))).1) (jI (wdir (wat (a.sx (a.lsh i)) (k - 1))).2) (jI k) (nT i) tr (LS i) (TS i) = some (u, v, jI (lgs a i), t2) ∧ RT (a.px i) (a.py i) (lst a i (lgs a i)) t2 := by
  intro n
  have hL : lgs a i = (a.sn (a.lsh i) + 1) / 2 := rfl
  have hs := ok.lsh i hi
  have b2 := ok.sn _ hs
  have hd := ok.ld i hi
  induction n with
  | zero => intro k tr _ h; omega
  | succ n ih =>
    intro k tr hk hf rt
    rw [l_Tr_follow_28, (rc.ts i hi).legs]
    by_cases c : k = lgs a i
    · rw [if_pos (by rw [c]; exact Int32.le_refl _), ← c]
      exact ⟨_, _, tr, rfl, rt⟩
    · have hlen : (lst a i k).length ≤ 2 * k - 1 ∧ k ≤ (lst a i k).length := stps_len _ _ _ k
      rw [if_neg (by simp (disch := omega) only [jI_lit, jL_lit, jI_n, jI_add, jI_sub, jI_mul, jI_neg, jL_add, jL_sub, jL_mul, jL_neg, jI_lt, jI_le, jI_eq, jL_lt, jL_le, jL_eq, jI_c, jI_64, jL_32, jI_div, jL_div, jx, bnd, if_true, if_false, if_pos, if_neg, Int.toNat_natCast, Int.reduceToNat, Int.add_zero, Int.zero_add, Int.reduceAdd, Int.reduceSub, Int.reduceMul, Int.reduceNeg, Int.reduceLT, Int.reduceLE, jI_rem, sI_1, sI_2, sA_1, sA_2, sA_3, sL_1, sL_2, sL_3, upd_a, updL_a, vaup_a, Nat.reduceEqDiff, Ab_sz, Ab_tx, Ab_ns, Ab_sn, Ab_sx, Ab_ru, Ab_nl, Ab_lsh, Ab_ld, Ab_lm, Ab_lg, Ab_pd, Ab_px, Ab_py, Ab_pz, Ab_kn, Ab_kl, Ab_km]; omega), c_bend ok rc hi (by omega), (rc.ls i hi).di, bnd]
      have hleg := (rc.ls i hi).lg k (by omega)
      obtain ⟨t2, e1, r1⟩ := c_turn rt (by omega) (wat_lt (a.sx (a.lsh i)) (k - 1)) (bch_c ok hi (show k < lgs a i by omega)) hd.2
      rw [e1, bnd, bch_w]
      rw [bch_w, ← bch_u] at *
      have hl2 : (lst a i k ++ ustep (a.sx (a.lsh i)) (a.ld i) k).length < 11 := by
        have h1 : (lst a i (k + 1)).length ≤ 2 * (k + 1) - 1 ∧ k + 1 ≤ (lst a i (k + 1)).length := stps_len _ _ _ (k + 1)
        have h2 : (lst a i (k + 1)).length = (lst a i k ++ ustep (a.sx (a.lsh i)) (a.ld i) k).length + 1 := by
          show (stps _ _ _ k ++ ustep _ _ k ++ [_]).length = _
          rw [List.length_append]; rfl
        omega
      obtain ⟨t3, e3, r3⟩ := c_go r1 hl2 ((wdir (wat (a.sx (a.lsh i)) k)).1 * a.lg i k, (wdir (wat (a.sx (a.lsh i)) k)).2 * a.lg i k, true)
      obtain ⟨u, v, t4, e4, r4⟩ := ih (k + 1) t3 (by omega) (by omega) r3
      refine ⟨u, v, t4, ?_, r4⟩
      simp (disch := omega) only [jI_lit, jL_lit, jI_n, jI_add, jI_sub, jI_mul, jI_neg, jL_add, jL_sub, jL_mul, jL_neg, jI_lt, jI_le, jI_eq, jL_lt, jL_le, jL_eq, jI_c, jI_64, jL_32, jI_div, jL_div, jx, bnd, if_true, if_false, if_pos, if_neg, Int.toNat_natCast, Int.reduceToNat, Int.add_zero, Int.zero_add, Int.reduceAdd, Int.reduceSub, Int.reduceMul, Int.reduceNeg, Int.reduceLT, Int.reduceLE, jI_rem, sI_1, sI_2, sA_1, sA_2, sA_3, sL_1, sL_2, sL_3, upd_a, updL_a, vaup_a, Nat.reduceEqDiff, Ab_sz, Ab_tx, Ab_ns, Ab_sn, Ab_sx, Ab_ru, Ab_nl, Ab_lsh, Ab_ld, Ab_lm, Ab_lg, Ab_pd, Ab_px, Ab_py, Ab_pz, Ab_kn, Ab_kl, Ab_km, hleg]
      rw [show jI 1 = jI (b01 true) from rfl, e3]
      exact e4
theorem c_follow (ok : Ok a) (rc : RC a nl nT LS TS FP FS bc sg) {i : Nat} (hi : i < a.nl) (tr : MS) : ∃ t2, f_Tr_follow tr (LS i) (nT i) (TS i) = some ((), t2) ∧ RT (a.px i) (a.py i) (lst a i (lgs a i)) t2 := by
  have hL : lgs a i = (a.sn (a.lsh i) + 1) / 2 := rfl
  have b2 := ok.sn _ (ok.lsh i hi)
  unfold f_Tr_follow
  simp only [bnd]
  have r0 : RT (a.px i) (a.py i) (lst a i 0) (sI (sI (sI tr 0 0) 1 ((LS i).1 4)) 2 ((LS i).1 5)) := by
    refine ⟨?_, ?_, ?_, ?_⟩
    · rfl
    · simp (disch := omega) only [jI_lit, jL_lit, jI_n, jI_add, jI_sub, jI_mul, jI_neg, jL_add, jL_sub, jL_mul, jL_neg, jI_lt, jI_le, jI_eq, jL_lt, jL_le, jL_eq, jI_c, jI_64, jL_32, jI_div, jL_div, jx, bnd, if_true, if_false, if_pos, if_neg, Int.toNat_natCast, Int.reduceToNat, Int.add_zero, Int.zero_add, Int.reduceAdd, Int.reduceSub, Int.reduceMul, Int.reduceNeg, Int.reduceLT, Int.reduceLE, jI_rem, sI_1, sI_2, sA_1, sA_2, sA_3, sL_1, sL_2, sL_3, upd_a, updL_a, vaup_a, Nat.reduceEqDiff, Ab_sz, Ab_tx, Ab_ns, Ab_sn, Ab_sx, Ab_ru, Ab_nl, Ab_lsh, Ab_ld, Ab_lm, Ab_lg, Ab_pd, Ab_px, Ab_py, Ab_pz, Ab_kn, Ab_kl, Ab_km, (rc.ls i hi).px]; simp [stps, sumX]
    · simp (disch := omega) only [jI_lit, jL_lit, jI_n, jI_add, jI_sub, jI_mul, jI_neg, jL_add, jL_sub, jL_mul, jL_neg, jI_lt, jI_le, jI_eq, jL_lt, jL_le, jL_eq, jI_c, jI_64, jL_32, jI_div, jL_div, jx, bnd, if_true, if_false, if_pos, if_neg, Int.toNat_natCast, Int.reduceToNat, Int.add_zero, Int.zero_add, Int.reduceAdd, Int.reduceSub, Int.reduceMul, Int.reduceNeg, Int.reduceLT, Int.reduceLE, jI_rem, sI_1, sI_2, sA_1, sA_2, sA_3, sL_1, sL_2, sL_3, upd_a, updL_a, vaup_a, Nat.reduceEqDiff, Ab_sz, Ab_tx, Ab_ns, Ab_sn, Ab_sx, Ab_ru, Ab_nl, Ab_lsh, Ab_ld, Ab_lm, Ab_lg, Ab_pd, Ab_px, Ab_py, Ab_pz, Ab_kn, Ab_kl, Ab_km, (rc.ls i hi).py]; simp [stps, sumY]
    · intro j s h; simp [stps] at h
  obtain ⟨u, v, t2, e, r⟩ := c_follL ok rc hi fu 0 _ (by omega) (by unfold fu; omega) r0
  refine ⟨t2, ?_, r⟩
  have e' : l_Tr_follow_28 fu 1 0 0 (nT i) (sI (sI (sI tr 0 0) 1 ((LS i).1 4)) 2 ((LS i).1 5)) (LS i) (TS i) = some (u, v, jI (lgs a i), t2) := e
  rw [e']
  rfl
theorem and0 : ∀ w : Nat, w < 4 → jI w &&& jI 3 = jI w := by decide +kernel
theorem and1 : ∀ w : Nat, w < 4 → jI ((w : Int) + 1) &&& jI 3 = jI ((w + 1) % 4 : Nat) := by decide +kernel
theorem and2 : ∀ w : Nat, w < 4 → jI ((w : Int) + 2) &&& jI 3 = jI ((w + 2) % 4 : Nat) := by decide +kernel
theorem and3 : ∀ w : Nat, w < 4 → jI ((w : Int) + 3) &&& jI 3 = jI ((w + 3) % 4 : Nat) := by decide +kernel
theorem m_drawL (ok : Ok a) {md0 : MS} (rm0 : RM a md0) {i : Nat} (hi : i < a.nl) : ∀ (n k : Nat) (md : MS), k ≤ lgs a i → lgs a i - k < n → RD md0 (lst a i k) md →
    ∃ u v m2, l_Md_draw_9 n (jI i) (jI (wat (a.sx (a.lsh i)) (k - 1))) (jI k) md = some (u, v, m2) ∧ RD md0 (lst a i (lgs a i)) m2 := by
  intro n
  have hL : lgs a i = (a.sn (a.lsh i) + 1) / 2 := rfl
  have hn := ok.nl
  have hs := ok.lsh i hi
  have hns := ok.ns
  have b2 := ok.sn _ hs
  have hd := ok.ld i hi
  induction n with
  | zero => intro k md _ h; omega
  | succ n ih =>
    intro k md hk hf rd
    have rm := rm0.kept rd.k
    rw [l_Md_draw_9]
    simp (disch := omega) only [jI_lit, jL_lit, jI_n, jI_add, jI_sub, jI_mul, jI_neg, jL_add, jL_sub, jL_mul, jL_neg, jI_lt, jI_le, jI_eq, jL_lt, jL_le, jL_eq, jI_c, jI_64, jL_32, jI_div, jL_div, jx, bnd, if_true, if_false, if_pos, if_neg, Int.toNat_natCast, Int.reduceToNat, Int.add_zero, Int.zero_add, Int.reduceAdd, Int.reduceSub, Int.reduceMul, Int.reduceNeg, Int.reduceLT, Int.reduceLE, jI_rem, sI_1, sI_2, sA_1, sA_2, sA_3, sL_1, sL_2, sL_3, upd_a, updL_a, vaup_a, Nat.reduceEqDiff, Ab_sz, Ab_tx, Ab_ns, Ab_sn, Ab_sx, Ab_ru, Ab_nl, Ab_lsh, Ab_ld, Ab_lm, Ab_lg, Ab_pd, Ab_px, Ab_py, Ab_pz, Ab_kn, Ab_kl, Ab_km, rm.sh i hi, rm.lc _ hs]
    by_cases c : k = lgs a i
    · rw [if_pos (by omega), ← c]
      exact ⟨_, _, md, rfl, rd⟩
    · rw [if_neg (by omega)]
      have hlen : (lst a i k).length ≤ 2 * k - 1 ∧ k ≤ (lst a i k).length := stps_len _ _ _ k
      have hq : ((if (k : Int) = 0 then some (jI 0) else some (md.2.1 2 (6 * (a.lsh i : Int) + k - 1).toNat)) : Option Int32) = some (jI (bendC (bch (a.sx (a.lsh i)) k))) := by
        by_cases c0 : k = 0
        · subst c0; rfl
        · have hbn := rm.bn _ hs (k - 1) (by omega)
          rw [show 2 * (k - 1) + 1 = 2 * k - 1 from by omega] at hbn
          unfold bch
          simp (disch := omega) only [jI_lit, jL_lit, jI_n, jI_add, jI_sub, jI_mul, jI_neg, jL_add, jL_sub, jL_mul, jL_neg, jI_lt, jI_le, jI_eq, jL_lt, jL_le, jL_eq, jI_c, jI_64, jL_32, jI_div, jL_div, jx, bnd, if_true, if_false, if_pos, if_neg, Int.toNat_natCast, Int.reduceToNat, Int.add_zero, Int.zero_add, Int.reduceAdd, Int.reduceSub, Int.reduceMul, Int.reduceNeg, Int.reduceLT, Int.reduceLE, jI_rem, sI_1, sI_2, sA_1, sA_2, sA_3, sL_1, sL_2, sL_3, upd_a, updL_a, vaup_a, Nat.reduceEqDiff, Ab_sz, Ab_tx, Ab_ns, Ab_sn, Ab_sx, Ab_ru, Ab_nl, Ab_lsh, Ab_ld, Ab_lm, Ab_lg, Ab_pd, Ab_px, Ab_py, Ab_pz, Ab_kn, Ab_kl, Ab_km]
          rw [show (6 * (a.lsh i : Int) + k - 1).toNat = 6 * a.lsh i + (k - 1) from by omega, hbn]
      have hbc := bch_c ok hi (show k < lgs a i by omega)
      have hw := wat_lt (a.sx (a.lsh i)) (k - 1)
      have hbw := bch_w (a.sx (a.lsh i)) k
      have hbu := bch_u (a.sx (a.lsh i)) (a.ld i) k
      have hl2 : (lst a i k ++ ustep (a.sx (a.lsh i)) (a.ld i) k).length < 11 := by
        have h1 : (lst a i (k + 1)).length ≤ 2 * (k + 1) - 1 ∧ k + 1 ≤ (lst a i (k + 1)).length := stps_len _ _ _ (k + 1)
        have h2 : (lst a i (k + 1)).length = (lst a i k ++ ustep (a.sx (a.lsh i)) (a.ld i) k).length + 1 := by
          show (stps _ _ _ k ++ ustep _ _ k ++ [_]).length = _
          rw [List.length_append]; rfl
        omega
      rw [hq, rm.di i hi]
      generalize hbg : bch (a.sx (a.lsh i)) k = cb at *
      have e6 : (6 * (i : Int) + k).toNat = 6 * i + k := by omega
      have hg := m_lgi rm hi hn (show k < 6 by omega)
      have fin : ∀ m2, RD md0 (lst a i k ++ ustep (a.sx (a.lsh i)) (a.ld i) k) m2 → ∃ u v m3, ((f_Md_go m2 (jI (wat (a.sx (a.lsh i)) k)) (jL (a.lg i k)) (jI 1)).bind fun q20 => l_Md_draw_9 n (jI i) (jI (wat (a.sx (a.lsh i)) k)) (jI (k + 1)) q20.2) = some (u, v, m3) ∧ RD md0 (lst a i (lgs a i)) m3 := fun m2 r2 => by
        obtain ⟨m3, e3, r3⟩ := m_go r2 (by omega) (wat_lt (a.sx (a.lsh i)) k) (a.lg i k) true
        obtain ⟨u, v, m4, e4, r4⟩ := ih (k + 1) m3 (by omega) (by omega) r3
        exact ⟨u, v, m4, by rw [show jI 1 = jI (b01 true) from rfl, e3]; exact e4, r4⟩
      rcases hbc with rfl | rfl | rfl | rfl
      · rw [hbu, if_neg (by decide), List.append_nil] at fin
        obtain ⟨u, v, m3, e, r⟩ := fin md rd
        refine ⟨u, v, m3, ?_, r⟩
        rw [show bendC 32 = 0 from rfl]
        simp (disch := omega) only [jI_lit, jL_lit, jI_n, jI_add, jI_sub, jI_mul, jI_neg, jL_add, jL_sub, jL_mul, jL_neg, jI_lt, jI_le, jI_eq, jL_lt, jL_le, jL_eq, jI_c, jI_64, jL_32, jI_div, jL_div, jx, bnd, if_true, if_false, if_pos, if_neg, Int.toNat_natCast, Int.reduceToNat, Int.add_zero, Int.zero_add, Int.reduceAdd, Int.reduceSub, Int.reduceMul, Int.reduceNeg, Int.reduceLT, Int.reduceLE, jI_rem, sI_1, sI_2, sA_1, sA_2, sA_3, sL_1, sL_2, sL_3, upd_a, updL_a, vaup_a, Nat.reduceEqDiff, Ab_sz, Ab_tx, Ab_ns, Ab_sn, Ab_sx, Ab_ru, Ab_nl, Ab_lsh, Ab_ld, Ab_lm, Ab_lg, Ab_pd, Ab_px, Ab_py, Ab_pz, Ab_kn, Ab_kl, Ab_km, Int.natCast_zero, and0 _ hw, e6, hg]
        rw [show wat (a.sx (a.lsh i)) (k - 1) = wat (a.sx (a.lsh i)) k from hbw]
        exact e
      · rw [hbu, if_neg (by decide), List.append_nil] at fin
        obtain ⟨u, v, m3, e, r⟩ := fin md rd
        refine ⟨u, v, m3, ?_, r⟩
        rw [show bendC 76 = 1 from rfl]
        simp (disch := omega) only [jI_lit, jL_lit, jI_n, jI_add, jI_sub, jI_mul, jI_neg, jL_add, jL_sub, jL_mul, jL_neg, jI_lt, jI_le, jI_eq, jL_lt, jL_le, jL_eq, jI_c, jI_64, jL_32, jI_div, jL_div, jx, bnd, if_true, if_false, if_pos, if_neg, Int.toNat_natCast, Int.reduceToNat, Int.add_zero, Int.zero_add, Int.reduceAdd, Int.reduceSub, Int.reduceMul, Int.reduceNeg, Int.reduceLT, Int.reduceLE, jI_rem, sI_1, sI_2, sA_1, sA_2, sA_3, sL_1, sL_2, sL_3, upd_a, updL_a, vaup_a, Nat.reduceEqDiff, Ab_sz, Ab_tx, Ab_ns, Ab_sn, Ab_sx, Ab_ru, Ab_nl, Ab_lsh, Ab_ld, Ab_lm, Ab_lg, Ab_pd, Ab_px, Ab_py, Ab_pz, Ab_kn, Ab_kl, Ab_km, Int.natCast_one, and1 _ hw, e6, hg]
        rw [show (wat (a.sx (a.lsh i)) (k - 1) + 1) % 4 = wat (a.sx (a.lsh i)) k from hbw]
        exact e
      · rw [hbu, if_neg (by decide), List.append_nil] at fin
        obtain ⟨u, v, m3, e, r⟩ := fin md rd
        refine ⟨u, v, m3, ?_, r⟩
        rw [show bendC 82 = 2 from rfl]
        simp (disch := omega) only [jI_lit, jL_lit, jI_n, jI_add, jI_sub, jI_mul, jI_neg, jL_add, jL_sub, jL_mul, jL_neg, jI_lt, jI_le, jI_eq, jL_lt, jL_le, jL_eq, jI_c, jI_64, jL_32, jI_div, jL_div, jx, bnd, if_true, if_false, if_pos, if_neg, Int.toNat_natCast, Int.reduceToNat, Int.add_zero, Int.zero_add, Int.reduceAdd, Int.reduceSub, Int.reduceMul, Int.reduceNeg, Int.reduceLT, Int.reduceLE, jI_rem, sI_1, sI_2, sA_1, sA_2, sA_3, sL_1, sL_2, sL_3, upd_a, updL_a, vaup_a, Nat.reduceEqDiff, Ab_sz, Ab_tx, Ab_ns, Ab_sn, Ab_sx, Ab_ru, Ab_nl, Ab_lsh, Ab_ld, Ab_lm, Ab_lg, Ab_pd, Ab_px, Ab_py, Ab_pz, Ab_kn, Ab_kl, Ab_km, Int.cast_ofNat_Int, and3 _ hw, e6, hg]
        rw [show (wat (a.sx (a.lsh i)) (k - 1) + 3) % 4 = wat (a.sx (a.lsh i)) k from hbw]
        exact e
      · rw [hbu, if_pos rfl] at fin
        obtain ⟨m2, e2, r2⟩ := m_go rd (by omega) (show (wat (a.sx (a.lsh i)) (k - 1) + 1) % 4 < 4 by omega) (3 * a.ld i) false
        have hg2 := m_lgi (rm0.kept r2.k) hi hn (show k < 6 by omega)
        obtain ⟨u, v, m3, e, r⟩ := fin m2 (by
          have h1 (w : Int) : w * ((3 * a.ld i : Nat) : Int) = 3 * (a.ld i : Int) * w := by rw [Int.mul_comm]; simp
          rw [h1, h1] at r2; exact r2)
        refine ⟨u, v, m3, ?_, r⟩
        rw [show bendC 85 = 3 from rfl]
        simp (disch := omega) only [jI_lit, jL_lit, jI_n, jI_add, jI_sub, jI_mul, jI_neg, jL_add, jL_sub, jL_mul, jL_neg, jI_lt, jI_le, jI_eq, jL_lt, jL_le, jL_eq, jI_c, jI_64, jL_32, jI_div, jL_div, jx, bnd, if_true, if_false, if_pos, if_neg, Int.toNat_natCast, Int.reduceToNat, Int.add_zero, Int.zero_add, Int.reduceAdd, Int.reduceSub, Int.reduceMul, Int.reduceNeg, Int.reduceLT, Int.reduceLE, jI_rem, sI_1, sI_2, sA_1, sA_2, sA_3, sL_1, sL_2, sL_3, upd_a, updL_a, vaup_a, Nat.reduceEqDiff, Ab_sz, Ab_tx, Ab_ns, Ab_sn, Ab_sx, Ab_ru, Ab_nl, Ab_lsh, Ab_ld, Ab_lm, Ab_lg, Ab_pd, Ab_px, Ab_py, Ab_pz, Ab_kn, Ab_kl, Ab_km, Int.cast_ofNat_Int, and1 _ hw, and2 _ hw]
        rw [show jI 0 = jI (b01 false) from rfl, show (3 : Int) * (a.ld i : Int) = ((3 * a.ld i : Nat) : Int) from by simp, e2]
        simp (disch := omega) only [jI_lit, jL_lit, jI_n, jI_add, jI_sub, jI_mul, jI_neg, jL_add, jL_sub, jL_mul, jL_neg, jI_lt, jI_le, jI_eq, jL_lt, jL_le, jL_eq, jI_c, jI_64, jL_32, jI_div, jL_div, jx, bnd, if_true, if_false, if_pos, if_neg, Int.toNat_natCast, Int.reduceToNat, Int.add_zero, Int.zero_add, Int.reduceAdd, Int.reduceSub, Int.reduceMul, Int.reduceNeg, Int.reduceLT, Int.reduceLE, jI_rem, sI_1, sI_2, sA_1, sA_2, sA_3, sL_1, sL_2, sL_3, upd_a, updL_a, vaup_a, Nat.reduceEqDiff, Ab_sz, Ab_tx, Ab_ns, Ab_sn, Ab_sx, Ab_ru, Ab_nl, Ab_lsh, Ab_ld, Ab_lm, Ab_lg, Ab_pd, Ab_px, Ab_py, Ab_pz, Ab_kn, Ab_kl, Ab_km, e6, hg2]
        rw [show (wat (a.sx (a.lsh i)) (k - 1) + 2) % 4 = wat (a.sx (a.lsh i)) k from hbw]
        exact e
theorem m_draw (ok : Ok a) (rm : RM a md) {i : Nat} (hi : i < a.nl) : ∃ m2, f_Md_draw md (jI i) = some ((), m2) ∧ RD md (lst a i (lgs a i)) m2 := by
  have hL : lgs a i = (a.sn (a.lsh i) + 1) / 2 := rfl
  have b2 := ok.sn _ (ok.lsh i hi)
  have r0 : RD md (lst a i 0) (sI md 8 0) := ⟨rfl, fun j s h => by simp [stps] at h, (Keep.rf md).sI (by omega), fun _ _ => rfl⟩
  obtain ⟨u, v, m2, e, r⟩ := m_drawL ok rm hi fu 0 _ (by omega) (by unfold fu; omega) r0
  refine ⟨m2, ?_, r⟩
  unfold f_Md_draw
  have e' : l_Md_draw_9 fu (jI i) 0 0 (sI md 8 0) = some (u, v, m2) := e
  rw [bnd, e']
  rfl
end Lines
