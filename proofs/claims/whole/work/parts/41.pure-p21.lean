def rowsF (rest top : Nat) : Nat → Nat → List Nat
  | 0, _ => []
  | n + 1, row => if row < top then [] else row :: rowsF rest top n ((row - 1) &&& rest)
abbrev rowsOf (rest : Nat) : List Nat := rowsF rest (hbit rest) 256 rest
abbrev Way : Type := List (Nat × Nat)
abbrev Bst : Type := Nat × Way
def decK (left : Nat → Nat) (k : Nat) : Nat → Nat := fun j => if j = k then left j - 1 else left j
def oneRow (rc : Nat → (Nat → Nat) → Way → Nat → Bst → Bst) (S : Nat → Nat) (s k rest : Nat) (left : Nat → Nat) (pre : Way) (cost : Nat) (b : Bst) (row : Nat) : Bst :=
  if S row ≤ s then (if row = rest then (if cost < b.1 then (cost, pre ++ [(k, row)]) else b) else rc (rest - row) left (pre ++ [(k, row)]) cost b) else b
def oneKind (rc : Nat → (Nat → Nat) → Way → Nat → Bst → Bst) (sz S : Nat → Nat) (rest : Nat) (left : Nat → Nat) (pre : Way) (cost : Nat) (b : Bst) (k : Nat) : Bst :=
  if left k = 0 then b else (rowsOf rest).foldl (oneRow rc S (sz k) k rest (decK left k) pre (cost + (16 * sz k + 1))) b
def srch (kn : Nat) (sz S : Nat → Nat) : Nat → Nat → (Nat → Nat) → Way → Nat → Bst → Bst
  | 0, _, _, _, _, b => b
  | r + 1, rest, left, pre, cost, b => (List.range kn).foldl (oneKind (srch kn sz S r) sz S rest left pre cost) b
theorem foldl_id {α β : Type} (f : β → α → β) (b : β) : ∀ (l : List α), (∀ x ∈ l, f b x = b) → l.foldl f b = b := by
  intro l
  induction l with
  | nil => intro _; rfl
  | cons x l ih => intro h; rw [List.foldl_cons, h x (by simp)]; exact ih (fun y hy => h y (by simp [hy]))
theorem rowsF_mem {rest top : Nat} : ∀ (n row : Nat), row &&& rest = row → ∀ x ∈ rowsF rest top n row, x &&& rest = x ∧ top ≤ x ∧ x ≤ row := by
  intro n
  induction n with
  | zero => intro row _ x h; simp [rowsF] at h
  | succ n ih =>
    intro row hr x h
    simp only [rowsF] at h
    split at h
    · simp at h
    · rcases List.mem_cons.mp h with h | h
      · subst h; exact ⟨hr, by omega, Nat.le_refl _⟩
      · have h2 := ih ((row - 1) &&& rest) (by rw [Nat.and_assoc, Nat.and_self]) x h
        have h3 : (row - 1) &&& rest ≤ row - 1 := Nat.and_le_left
        exact ⟨h2.1, h2.2.1, by omega⟩
theorem rows_mem {rest x : Nat} (h : x ∈ rowsOf rest) : x &&& rest = x ∧ hbit rest ≤ x ∧ x ≤ rest := rowsF_mem 256 rest (Nat.and_self rest) x h
theorem rows_lt {rest x : Nat} (h : x ∈ rowsOf rest) : rest - x < hbit rest := by
  have h1 := rows_mem h
  have h2 := hbit_lt rest
  omega
theorem hbit_pow {rest r : Nat} (h0 : 0 < rest) (h : rest < 2 ^ (r + 1)) : hbit rest ≤ 2 ^ r := by
  unfold hbit
  have h1 : rest.log2 < r + 1 := (Nat.log2_lt (by omega)).mpr h
  exact Nat.pow_le_pow_right (by omega) (by omega)
theorem srch_prune {kn : Nat} {sz S fl left0 : Nat → Nat} (hfl : ∀ rest, 0 < rest → rest < 256 → ∀ row ∈ rowsOf rest, ∀ k, k < kn → left0 k ≠ 0 → S row ≤ sz k → fl rest ≤ 16 * sz k + 1 + fl (rest - row)) (h0 : fl 0 = 0) :
    ∀ (r rest : Nat) (left : Nat → Nat) (pre : Way) (cost : Nat) (b : Bst), 0 < rest → rest < 256 → (∀ k, k < kn → left k ≠ 0 → left0 k ≠ 0) → b.1 ≤ cost + fl rest → srch kn sz S r rest left pre cost b = b := by
  intro r
  induction r with
  | zero => intros; rfl
  | succ r ih =>
    intro rest left pre cost b hr0 hr1 hl hb
    simp only [srch]
    refine foldl_id _ _ _ (fun k hk => ?_)
    rw [List.mem_range] at hk
    unfold oneKind
    split
    · rfl
    · rename_i hk0
      refine foldl_id _ _ _ (fun row hrow => ?_)
      unfold oneRow
      split
      · rename_i hs
        have h1 := hfl rest hr0 hr1 row hrow k hk (hl k hk hk0) hs
        have h2 := rows_mem hrow
        split
        · rename_i e
          subst e
          rw [Nat.sub_self, h0] at h1
          rw [if_neg (by omega)]
        · rename_i e
          refine ih (rest - row) _ _ _ b (by omega) (by omega) (fun j hj h3 => hl j hj (fun h4 => h3 ?_)) (by omega)
          unfold decK
          split <;> omega
      · rfl
theorem c_hbitL {s : Nat} (h0 : 0 < s) : ∀ (j n : Nat), j < 8 → s < 2 ^ (j + 1) → j < n → l_Lw_highestBit_4 n (jI s) (jI ((2 ^ j : Nat) : Int)) = some (jI (hbit s)) := by
  intro j
  induction j with
  | zero =>
    intro n _ h1 hn
    have : s = 1 := by omega
    subst this
    obtain ⟨n, rfl⟩ : ∃ m, n = m + 1 := ⟨n - 1, by omega⟩
    rw [l_Lw_highestBit_4]; rfl
  | succ j ih =>
    intro n hj h1 hn
    obtain ⟨n, rfl⟩ : ∃ m, n = m + 1 := ⟨n - 1, by omega⟩
    have hp : 2 ^ (j + 1) = 2 * 2 ^ j := by rw [Nat.pow_succ]; omega
    have hp2 : 2 ^ j ≤ 2 ^ 7 := Nat.pow_le_pow_right (by omega) (by omega)
    have hp1 : 1 ≤ 2 ^ j := Nat.one_le_two_pow
    have ht := set_t (j + 1) (by omega) s h1
    rw [l_Lw_highestBit_4, jI_and, if_neg (by simp (disch := omega) only [jI_lit, jL_lit, jI_n, jI_add, jI_sub, jI_mul, jI_neg, jL_add, jL_sub, jL_mul, jL_neg, jI_lt, jI_le, jI_eq, jL_lt, jL_le, jL_eq, jI_c, jI_64, jL_32, jI_div, jL_div, jx, bnd, if_true, if_false, if_pos, if_neg, Int.toNat_natCast, Int.reduceToNat, Int.add_zero, Int.zero_add, Int.reduceAdd, Int.reduceSub, Int.reduceMul, Int.reduceNeg, Int.reduceLT, Int.reduceLE, jI_rem, sI_1, sI_2, sA_1, sA_2, sA_3, sL_1, sL_2, sL_3, upd_a, updL_a, vaup_a, Nat.reduceEqDiff, Ab_sz, Ab_tx, Ab_ns, Ab_sn, Ab_sx, Ab_ru, Ab_nl, Ab_lsh, Ab_ld, Ab_lm, Ab_lg, Ab_pd, Ab_px, Ab_py, Ab_pz, Ab_kn, Ab_kl, Ab_km]; omega)]
    by_cases c : s < 2 ^ (j + 1)
    · rw [ht.mpr c, if_pos (show jI ((0 : Nat) : Int) = 0 from rfl), bnd]
      have := ih n (by omega) c (by omega)
      rw [← this]
      congr 1
      rw [show (2 : Int32) = jI 2 from rfl, jI_div (by omega) (by omega) (by omega) (by omega)]
      congr 1; omega
    · have hne : s &&& 2 ^ (j + 1) ≠ 0 := fun h => c (ht.mp h)
      have hle : s &&& 2 ^ (j + 1) ≤ 2 ^ (j + 1) := Nat.and_le_right
      rw [if_neg (by rw [show (0 : Int32) = jI 0 from rfl, jI_eq (by omega) (by omega) (by omega) (by omega)]; omega)]
      congr 2
      have hl : s.log2 = j + 1 := by
        have h2 : s.log2 < j + 2 := (Nat.log2_lt (by omega)).mpr h1
        have h3 : ¬ s.log2 < j + 1 := fun h => c ((Nat.log2_lt (by omega)).mp h)
        omega
      unfold hbit; rw [hl]
theorem c_hbit {s : Nat} (h0 : 0 < s) (h1 : s < 256) : f_Lw_highestBit (jI s) = some (jI (hbit s)) := c_hbitL h0 7 fu (by omega) h1 (by unfold fu; omega)
def RW (kn : Nat) (sz S fl : Nat → Nat) (c : Nat) (left : Nat → Nat) (pre : Way) (b : Bst) (lw : MS) : Prop := (lw.1 0 = jI kn) ∧ (lw.1 1 = jI b.1) ∧ (lw.1 2 = jI b.2.length) ∧ (∀ s, s < 2 ^ c → lw.2.1 0 s = jI (S s)) ∧ (∀ s, s < 2 ^ c → lw.2.1 1 s = jI (fl s)) ∧ (∀ k, k < kn → lw.2.1 2 k = jI (sz k)) ∧ (∀ k, k < kn → lw.2.1 3 k = jI (left k)) ∧ (∀ d x, pre[d]? = some x → lw.2.1 4 d = jI x.1 ∧ lw.2.1 5 d = jI x.2) ∧ (∀ d x, b.2[d]? = some x → lw.2.1 6 d = jI x.1 ∧ lw.2.1 7 d = jI x.2)
theorem RW.k0 {kn : Nat} {sz S fl : Nat → Nat} {c : Nat} {left : Nat → Nat} {pre : Way} {b : Bst} {lw : MS} (h9 : RW kn sz S fl c left pre b lw) : lw.1 0 = jI kn := h9.1
theorem RW.bv {kn : Nat} {sz S fl : Nat → Nat} {c : Nat} {left : Nat → Nat} {pre : Way} {b : Bst} {lw : MS} (h9 : RW kn sz S fl c left pre b lw) : lw.1 1 = jI b.1 := h9.2.1
theorem RW.bb {kn : Nat} {sz S fl : Nat → Nat} {c : Nat} {left : Nat → Nat} {pre : Way} {b : Bst} {lw : MS} (h9 : RW kn sz S fl c left pre b lw) : lw.1 2 = jI b.2.length := h9.2.2.1
theorem RW.su {kn : Nat} {sz S fl : Nat → Nat} {c : Nat} {left : Nat → Nat} {pre : Way} {b : Bst} {lw : MS} (h9 : RW kn sz S fl c left pre b lw) : ∀ s, s < 2 ^ c → lw.2.1 0 s = jI (S s) := h9.2.2.2.1
theorem RW.fo {kn : Nat} {sz S fl : Nat → Nat} {c : Nat} {left : Nat → Nat} {pre : Way} {b : Bst} {lw : MS} (h9 : RW kn sz S fl c left pre b lw) : ∀ s, s < 2 ^ c → lw.2.1 1 s = jI (fl s) := h9.2.2.2.2.1
theorem RW.zi {kn : Nat} {sz S fl : Nat → Nat} {c : Nat} {left : Nat → Nat} {pre : Way} {b : Bst} {lw : MS} (h9 : RW kn sz S fl c left pre b lw) : ∀ k, k < kn → lw.2.1 2 k = jI (sz k) := h9.2.2.2.2.2.1
theorem RW.le {kn : Nat} {sz S fl : Nat → Nat} {c : Nat} {left : Nat → Nat} {pre : Way} {b : Bst} {lw : MS} (h9 : RW kn sz S fl c left pre b lw) : ∀ k, k < kn → lw.2.1 3 k = jI (left k) := h9.2.2.2.2.2.2.1
theorem RW.pk {kn : Nat} {sz S fl : Nat → Nat} {c : Nat} {left : Nat → Nat} {pre : Way} {b : Bst} {lw : MS} (h9 : RW kn sz S fl c left pre b lw) : ∀ d x, pre[d]? = some x → lw.2.1 4 d = jI x.1 ∧ lw.2.1 5 d = jI x.2 := h9.2.2.2.2.2.2.2.1
theorem RW.wk {kn : Nat} {sz S fl : Nat → Nat} {c : Nat} {left : Nat → Nat} {pre : Way} {b : Bst} {lw : MS} (h9 : RW kn sz S fl c left pre b lw) : ∀ d x, b.2[d]? = some x → lw.2.1 6 d = jI x.1 ∧ lw.2.1 7 d = jI x.2 := h9.2.2.2.2.2.2.2.2
theorem RW.mk {kn : Nat} {sz S fl : Nat → Nat} {c : Nat} {left : Nat → Nat} {pre : Way} {b : Bst} {lw : MS} (u_k0 : lw.1 0 = jI kn) (u_bv : lw.1 1 = jI b.1) (u_bb : lw.1 2 = jI b.2.length) (u_su : ∀ s, s < 2 ^ c → lw.2.1 0 s = jI (S s)) (u_fo : ∀ s, s < 2 ^ c → lw.2.1 1 s = jI (fl s)) (u_zi : ∀ k, k < kn → lw.2.1 2 k = jI (sz k)) (u_le : ∀ k, k < kn → lw.2.1 3 k = jI (left k)) (u_pk : ∀ d x, pre[d]? = some x → lw.2.1 4 d = jI x.1 ∧ lw.2.1 5 d = jI x.2) (u_wk : ∀ d x, b.2[d]? = some x → lw.2.1 6 d = jI x.1 ∧ lw.2.1 7 d = jI x.2) : RW kn sz S fl c left pre b lw := ⟨u_k0, u_bv, u_bb, u_su, u_fo, u_zi, u_le, u_pk, u_wk⟩
section LW
variable {kn c : Nat} {sz S fl left left0 : Nat → Nat} {pre : Way} {b : Bst} {lw : MS}
theorem c_keepL {bx : Bst} (hl : pre.length ≤ 8) (y : Int32) : ∀ (n d : Nat) (lw : MS), d ≤ pre.length → pre.length - d < n → (∀ k, lw.1 k = lw.1 k) → (∀ e x, pre[e]? = some x → lw.2.1 4 e = jI x.1 ∧ lw.2.1 5 e = jI x.2) → (∀ e x, e < d → pre[e]? = some x → lw.2.1 6 e = jI x.1 ∧ lw.2.1 7 e = jI x.2) →
    ∃ l2, l_Lw_keep_12 n (jI pre.length) y (jI d) lw = some (jI pre.length, l2) ∧ l2.1 = lw.1 ∧ (∀ k, k < 6 → l2.2.1 k = lw.2.1 k) ∧ (∀ e x, pre[e]? = some x → l2.2.1 6 e = jI x.1 ∧ l2.2.1 7 e = jI x.2) := by
  intro n
  induction n with
  | zero => intro d lw _ h; omega
  | succ n ih =>
    intro d lw hd hn _ hp hw
    rw [l_Lw_keep_12]
    by_cases e : d = pre.length
    · subst e
      exact ⟨lw, by rw [if_pos (Int32.le_refl _)], rfl, fun _ _ => rfl, fun e x h => hw e x (List.getElem?_eq_some_iff.mp h).1 h⟩
    · have hd' : d < pre.length := by omega
      have e1 := List.getElem?_eq_getElem hd'
      obtain ⟨p1, p2⟩ := hp d _ e1
      obtain ⟨l2, e2, g1, g2, g3⟩ := ih (d + 1) (sA (sA lw 6 (upd (lw.2.1 6) d (jI (pre[d]).1))) 7 (upd (lw.2.1 7) d (jI (pre[d]).2))) (by omega) (by omega) (fun _ => rfl) (fun e x h => by simp (disch := omega) only [jI_lit, jL_lit, jI_n, jI_add, jI_sub, jI_mul, jI_neg, jL_add, jL_sub, jL_mul, jL_neg, jI_lt, jI_le, jI_eq, jL_lt, jL_le, jL_eq, jI_c, jI_64, jL_32, jI_div, jL_div, jx, bnd, if_true, if_false, if_pos, if_neg, Int.toNat_natCast, Int.reduceToNat, Int.add_zero, Int.zero_add, Int.reduceAdd, Int.reduceSub, Int.reduceMul, Int.reduceNeg, Int.reduceLT, Int.reduceLE, jI_rem, sI_1, sI_2, sA_1, sA_2, sA_3, sL_1, sL_2, sL_3, upd_a, updL_a, vaup_a, Nat.reduceEqDiff, Ab_sz, Ab_tx, Ab_ns, Ab_sn, Ab_sx, Ab_ru, Ab_nl, Ab_lsh, Ab_ld, Ab_lm, Ab_lg, Ab_pd, Ab_px, Ab_py, Ab_pz, Ab_kn, Ab_kl, Ab_km]; exact hp e x h) (fun e x he h => by
        by_cases c : e = d
        · subst c
          rw [e1] at h
          obtain rfl := Option.some.inj h
          simp (disch := omega) only [jI_lit, jL_lit, jI_n, jI_add, jI_sub, jI_mul, jI_neg, jL_add, jL_sub, jL_mul, jL_neg, jI_lt, jI_le, jI_eq, jL_lt, jL_le, jL_eq, jI_c, jI_64, jL_32, jI_div, jL_div, jx, bnd, if_true, if_false, if_pos, if_neg, Int.toNat_natCast, Int.reduceToNat, Int.add_zero, Int.zero_add, Int.reduceAdd, Int.reduceSub, Int.reduceMul, Int.reduceNeg, Int.reduceLT, Int.reduceLE, jI_rem, sI_1, sI_2, sA_1, sA_2, sA_3, sL_1, sL_2, sL_3, upd_a, updL_a, vaup_a, Nat.reduceEqDiff, Ab_sz, Ab_tx, Ab_ns, Ab_sn, Ab_sx, Ab_ru, Ab_nl, Ab_lsh, Ab_ld, Ab_lm, Ab_lg, Ab_pd, Ab_px, Ab_py, Ab_pz, Ab_kn, Ab_kl, Ab_km]; simp
        · simp (disch := omega) only [jI_lit, jL_lit, jI_n, jI_add, jI_sub, jI_mul, jI_neg, jL_add, jL_sub, jL_mul, jL_neg, jI_lt, jI_le, jI_eq, jL_lt, jL_le, jL_eq, jI_c, jI_64, jL_32, jI_div, jL_div, jx, bnd, if_true, if_false, if_pos, if_neg, Int.toNat_natCast, Int.reduceToNat, Int.add_zero, Int.zero_add, Int.reduceAdd, Int.reduceSub, Int.reduceMul, Int.reduceNeg, Int.reduceLT, Int.reduceLE, jI_rem, sI_1, sI_2, sA_1, sA_2, sA_3, sL_1, sL_2, sL_3, upd_a, updL_a, vaup_a, Nat.reduceEqDiff, Ab_sz, Ab_tx, Ab_ns, Ab_sn, Ab_sx, Ab_ru, Ab_nl, Ab_lsh, Ab_ld, Ab_lm, Ab_lg, Ab_pd, Ab_px, Ab_py, Ab_pz, Ab_kn, Ab_kl, Ab_km]; exact hw e x (by omega) h)
      refine ⟨l2, ?_, g1, fun k hk => ?_, g3⟩
      · simp (disch := omega) only [jI_lit, jL_lit, jI_n, jI_add, jI_sub, jI_mul, jI_neg, jL_add, jL_sub, jL_mul, jL_neg, jI_lt, jI_le, jI_eq, jL_lt, jL_le, jL_eq, jI_c, jI_64, jL_32, jI_div, jL_div, jx, bnd, if_true, if_false, if_pos, if_neg, Int.toNat_natCast, Int.reduceToNat, Int.add_zero, Int.zero_add, Int.reduceAdd, Int.reduceSub, Int.reduceMul, Int.reduceNeg, Int.reduceLT, Int.reduceLE, jI_rem, sI_1, sI_2, sA_1, sA_2, sA_3, sL_1, sL_2, sL_3, upd_a, updL_a, vaup_a, Nat.reduceEqDiff, Ab_sz, Ab_tx, Ab_ns, Ab_sn, Ab_sx, Ab_ru, Ab_nl, Ab_lsh, Ab_ld, Ab_lm, Ab_lg, Ab_pd, Ab_px, Ab_py, Ab_pz, Ab_kn, Ab_kl, Ab_km, p1, p2]
        exact e2
      · rw [g2 k hk]; simp (disch := omega) only [jI_lit, jL_lit, jI_n, jI_add, jI_sub, jI_mul, jI_neg, jL_add, jL_sub, jL_mul, jL_neg, jI_lt, jI_le, jI_eq, jL_lt, jL_le, jL_eq, jI_c, jI_64, jL_32, jI_div, jL_div, jx, bnd, if_true, if_false, if_pos, if_neg, Int.toNat_natCast, Int.reduceToNat, Int.add_zero, Int.zero_add, Int.reduceAdd, Int.reduceSub, Int.reduceMul, Int.reduceNeg, Int.reduceLT, Int.reduceLE, jI_rem, sI_1, sI_2, sA_1, sA_2, sA_3, sL_1, sL_2, sL_3, upd_a, updL_a, vaup_a, Nat.reduceEqDiff, Ab_sz, Ab_tx, Ab_ns, Ab_sn, Ab_sx, Ab_ru, Ab_nl, Ab_lsh, Ab_ld, Ab_lm, Ab_lg, Ab_pd, Ab_px, Ab_py, Ab_pz, Ab_kn, Ab_kl, Ab_km]
theorem c_keep (h : RW kn sz S fl c left pre b lw) (hl : pre.length ≤ 8) (cost : Nat) : ∃ l2, f_Lw_keep lw (jI pre.length) (jI cost) = some ((), l2) ∧ RW kn sz S fl c left pre (cost, pre) l2 := by
  obtain ⟨l2, e, g1, g2, g3⟩ := c_keepL (bx := b) hl (jI cost) fu 0 (sI (sI lw 1 (jI cost)) 2 (jI pre.length)) (by omega) (by unfold fu; omega) (fun _ => rfl) h.pk (fun e x h1 => by omega)
  refine ⟨l2, ?_, ?_⟩
  · have e' : l_Lw_keep_12 fu (jI pre.length) (jI cost) 0 (sI (sI lw 1 (jI cost)) 2 (jI pre.length)) = some (jI pre.length, l2) := e
    unfold f_Lw_keep
    simp only [bnd]
    rw [e']; rfl
  · refine ⟨?_, ?_, ?_, ?_, ?_, ?_, ?_, ?_, ?_⟩
    · rw [g1]; simp (disch := omega) only [jI_lit, jL_lit, jI_n, jI_add, jI_sub, jI_mul, jI_neg, jL_add, jL_sub, jL_mul, jL_neg, jI_lt, jI_le, jI_eq, jL_lt, jL_le, jL_eq, jI_c, jI_64, jL_32, jI_div, jL_div, jx, bnd, if_true, if_false, if_pos, if_neg, Int.toNat_natCast, Int.reduceToNat, Int.add_zero, Int.zero_add, Int.reduceAdd, Int.reduceSub, Int.reduceMul, Int.reduceNeg, Int.reduceLT, Int.reduceLE, jI_rem, sI_1, sI_2, sA_1, sA_2, sA_3, sL_1, sL_2, sL_3, upd_a, updL_a, vaup_a, Nat.reduceEqDiff, Ab_sz, Ab_tx, Ab_ns, Ab_sn, Ab_sx, Ab_ru, Ab_nl, Ab_lsh, Ab_ld, Ab_lm, Ab_lg, Ab_pd, Ab_px, Ab_py, Ab_pz, Ab_kn, Ab_kl, Ab_km]; exact h.k0
    · rw [g1]; simp (disch := omega) only [jI_lit, jL_lit, jI_n, jI_add, jI_sub, jI_mul, jI_neg, jL_add, jL_sub, jL_mul, jL_neg, jI_lt, jI_le, jI_eq, jL_lt, jL_le, jL_eq, jI_c, jI_64, jL_32, jI_div, jL_div, jx, bnd, if_true, if_false, if_pos, if_neg, Int.toNat_natCast, Int.reduceToNat, Int.add_zero, Int.zero_add, Int.reduceAdd, Int.reduceSub, Int.reduceMul, Int.reduceNeg, Int.reduceLT, Int.reduceLE, jI_rem, sI_1, sI_2, sA_1, sA_2, sA_3, sL_1, sL_2, sL_3, upd_a, updL_a, vaup_a, Nat.reduceEqDiff, Ab_sz, Ab_tx, Ab_ns, Ab_sn, Ab_sx, Ab_ru, Ab_nl, Ab_lsh, Ab_ld, Ab_lm, Ab_lg, Ab_pd, Ab_px, Ab_py, Ab_pz, Ab_kn, Ab_kl, Ab_km]
    · rw [g1]; simp (disch := omega) only [jI_lit, jL_lit, jI_n, jI_add, jI_sub, jI_mul, jI_neg, jL_add, jL_sub, jL_mul, jL_neg, jI_lt, jI_le, jI_eq, jL_lt, jL_le, jL_eq, jI_c, jI_64, jL_32, jI_div, jL_div, jx, bnd, if_true, if_false, if_pos, if_neg, Int.toNat_natCast, Int.reduceToNat, Int.add_zero, Int.zero_add, Int.reduceAdd, Int.reduceSub, Int.reduceMul, Int.reduceNeg, Int.reduceLT, Int.reduceLE, jI_rem, sI_1, sI_2, sA_1, sA_2, sA_3, sL_1, sL_2, sL_3, upd_a, updL_a, vaup_a, Nat.reduceEqDiff, Ab_sz, Ab_tx, Ab_ns, Ab_sn, Ab_sx, Ab_ru, Ab_nl, Ab_lsh, Ab_ld, Ab_lm, Ab_lg, Ab_pd, Ab_px, Ab_py, Ab_pz, Ab_kn, Ab_kl, Ab_km]
    · rw [g2 0 (by omega)]; exact h.su
    · rw [g2 1 (by omega)]; exact h.fo
    · rw [g2 2 (by omega)]; exact h.zi
    · rw [g2 3 (by omega)]; exact h.le
    · rw [g2 4 (by omega), g2 5 (by omega)]; exact h.pk
    · exact g3
theorem srch_le : ∀ (r rest : Nat) (left : Nat → Nat) (pre : Way) (cost : Nat) (b : Bst), (srch kn sz S r rest left pre cost b).1 ≤ b.1 := by
  intro r
  have fl_le : ∀ {α : Type} (f : Bst → α → Bst), (∀ b x, (f b x).1 ≤ b.1) → ∀ (l : List α) (b : Bst), (l.foldl f b).1 ≤ b.1 := by
    intro α f hf l
    induction l with
    | nil => intro b; exact Nat.le_refl _
    | cons x l ih => intro b; rw [List.foldl_cons]; exact Nat.le_trans (ih _) (hf b x)
  induction r with
  | zero => intros; exact Nat.le_refl _
  | succ r ih =>
    intro rest left pre cost b
    simp only [srch]
    refine fl_le _ (fun b k => ?_) _ b
    unfold oneKind
    split
    · exact Nat.le_refl _
    · refine fl_le _ (fun b row => ?_) _ b
      unfold oneRow
      split
      · split
        · split
          · simp only; omega
          · exact Nat.le_refl _
        · exact ih _ _ _ _ _
      · exact Nat.le_refl _
end LW
section LW
variable {kn c : Nat} {sz S fl left left0 : Nat → Nat} {pre : Way} {b : Bst} {lw : MS}
def HW (kn c : Nat) (sz S fl left0 : Nat → Nat) : Prop := (kn ≤ 3) ∧ (c ≤ 8) ∧ (∀ k, k < kn → 1 ≤ sz k ∧ sz k ≤ 30000) ∧ (∀ s, s < 2 ^ c → S s ≤ 1000000) ∧ (∀ s, s < 2 ^ c → fl s ≤ 268435456) ∧ (fl 0 = 0) ∧ (∀ rest, 0 < rest → rest < 2 ^ c → ∀ row ∈ rowsOf rest, ∀ k, k < kn → left0 k ≠ 0 → S row ≤ sz k → fl rest ≤ 16 * sz k + 1 + fl (rest - row))
theorem HW.k3 {kn c : Nat} {sz S fl left0 : Nat → Nat} (h9 : HW kn c sz S fl left0) : kn ≤ 3 := h9.1
theorem HW.c8 {kn c : Nat} {sz S fl left0 : Nat → Nat} (h9 : HW kn c sz S fl left0) : c ≤ 8 := h9.2.1
theorem HW.zb {kn c : Nat} {sz S fl left0 : Nat → Nat} (h9 : HW kn c sz S fl left0) : ∀ k, k < kn → 1 ≤ sz k ∧ sz k ≤ 30000 := h9.2.2.1
theorem HW.sb {kn c : Nat} {sz S fl left0 : Nat → Nat} (h9 : HW kn c sz S fl left0) : ∀ s, s < 2 ^ c → S s ≤ 1000000 := h9.2.2.2.1
theorem HW.fb {kn c : Nat} {sz S fl left0 : Nat → Nat} (h9 : HW kn c sz S fl left0) : ∀ s, s < 2 ^ c → fl s ≤ 268435456 := h9.2.2.2.2.1
theorem HW.f0 {kn c : Nat} {sz S fl left0 : Nat → Nat} (h9 : HW kn c sz S fl left0) : fl 0 = 0 := h9.2.2.2.2.2.1
theorem HW.hf {kn c : Nat} {sz S fl left0 : Nat → Nat} (h9 : HW kn c sz S fl left0) : ∀ rest, 0 < rest → rest < 2 ^ c → ∀ row ∈ rowsOf rest, ∀ k, k < kn → left0 k ≠ 0 → S row ≤ sz k → fl rest ≤ 16 * sz k + 1 + fl (rest - row) := h9.2.2.2.2.2.2
theorem HW.mk {kn c : Nat} {sz S fl left0 : Nat → Nat} (u_k3 : kn ≤ 3) (u_c8 : c ≤ 8) (u_zb : ∀ k, k < kn → 1 ≤ sz k ∧ sz k ≤ 30000) (u_sb : ∀ s, s < 2 ^ c → S s ≤ 1000000) (u_fb : ∀ s, s < 2 ^ c → fl s ≤ 268435456) (u_f0 : fl 0 = 0) (u_hf : ∀ rest, 0 < rest → rest < 2 ^ c → ∀ row ∈ rowsOf rest, ∀ k, k < kn → left0 k ≠ 0 → S row ≤ sz k → fl rest ≤ 16 * sz k + 1 + fl (rest - row)) : HW kn c sz S fl left0 := ⟨u_k3, u_c8, u_zb, u_sb, u_fb, u_f0, u_hf⟩
theorem RW.row (h : RW kn sz S fl c left pre b lw) {k : Nat} (hk : lw.2.1 4 pre.length = jI k) (row : Nat) : RW kn sz S fl c left (pre ++ [(k, row)]) b (sA lw 5 (upd (lw.2.1 5) pre.length (jI row))) := by
  refine ⟨h.k0, h.bv, h.bb, ?_, ?_, ?_, ?_, ?_, ?_⟩
  · intro s hs; simp (disch := omega) only [jI_lit, jL_lit, jI_n, jI_add, jI_sub, jI_mul, jI_neg, jL_add, jL_sub, jL_mul, jL_neg, jI_lt, jI_le, jI_eq, jL_lt, jL_le, jL_eq, jI_c, jI_64, jL_32, jI_div, jL_div, jx, bnd, if_true, if_false, if_pos, if_neg, Int.toNat_natCast, Int.reduceToNat, Int.add_zero, Int.zero_add, Int.reduceAdd, Int.reduceSub, Int.reduceMul, Int.reduceNeg, Int.reduceLT, Int.reduceLE, jI_rem, sI_1, sI_2, sA_1, sA_2, sA_3, sL_1, sL_2, sL_3, upd_a, updL_a, vaup_a, Nat.reduceEqDiff, Ab_sz, Ab_tx, Ab_ns, Ab_sn, Ab_sx, Ab_ru, Ab_nl, Ab_lsh, Ab_ld, Ab_lm, Ab_lg, Ab_pd, Ab_px, Ab_py, Ab_pz, Ab_kn, Ab_kl, Ab_km]; exact h.su s hs
  · intro s hs; simp (disch := omega) only [jI_lit, jL_lit, jI_n, jI_add, jI_sub, jI_mul, jI_neg, jL_add, jL_sub, jL_mul, jL_neg, jI_lt, jI_le, jI_eq, jL_lt, jL_le, jL_eq, jI_c, jI_64, jL_32, jI_div, jL_div, jx, bnd, if_true, if_false, if_pos, if_neg, Int.toNat_natCast, Int.reduceToNat, Int.add_zero, Int.zero_add, Int.reduceAdd, Int.reduceSub, Int.reduceMul, Int.reduceNeg, Int.reduceLT, Int.reduceLE, jI_rem, sI_1, sI_2, sA_1, sA_2, sA_3, sL_1, sL_2, sL_3, upd_a, updL_a, vaup_a, Nat.reduceEqDiff, Ab_sz, Ab_tx, Ab_ns, Ab_sn, Ab_sx, Ab_ru, Ab_nl, Ab_lsh, Ab_ld, Ab_lm, Ab_lg, Ab_pd, Ab_px, Ab_py, Ab_pz, Ab_kn, Ab_kl, Ab_km]; exact h.fo s hs
  · intro s hs; simp (disch := omega) only [jI_lit, jL_lit, jI_n, jI_add, jI_sub, jI_mul, jI_neg, jL_add, jL_sub, jL_mul, jL_neg, jI_lt, jI_le, jI_eq, jL_lt, jL_le, jL_eq, jI_c, jI_64, jL_32, jI_div, jL_div, jx, bnd, if_true, if_false, if_pos, if_neg, Int.toNat_natCast, Int.reduceToNat, Int.add_zero, Int.zero_add, Int.reduceAdd, Int.reduceSub, Int.reduceMul, Int.reduceNeg, Int.reduceLT, Int.reduceLE, jI_rem, sI_1, sI_2, sA_1, sA_2, sA_3, sL_1, sL_2, sL_3, upd_a, updL_a, vaup_a, Nat.reduceEqDiff, Ab_sz, Ab_tx, Ab_ns, Ab_sn, Ab_sx, Ab_ru, Ab_nl, Ab_lsh, Ab_ld, Ab_lm, Ab_lg, Ab_pd, Ab_px, Ab_py, Ab_pz, Ab_kn, Ab_kl, Ab_km]; exact h.zi s hs
  · intro s hs; simp (disch := omega) only [jI_lit, jL_lit, jI_n, jI_add, jI_sub, jI_mul, jI_neg, jL_add, jL_sub, jL_mul, jL_neg, jI_lt, jI_le, jI_eq, jL_lt, jL_le, jL_eq, jI_c, jI_64, jL_32, jI_div, jL_div, jx, bnd, if_true, if_false, if_pos, if_neg, Int.toNat_natCast, Int.reduceToNat, Int.add_zero, Int.zero_add, Int.reduceAdd, Int.reduceSub, Int.reduceMul, Int.reduceNeg, Int.reduceLT, Int.reduceLE, jI_rem, sI_1, sI_2, sA_1, sA_2, sA_3, sL_1, sL_2, sL_3, upd_a, updL_a, vaup_a, Nat.reduceEqDiff, Ab_sz, Ab_tx, Ab_ns, Ab_sn, Ab_sx, Ab_ru, Ab_nl, Ab_lsh, Ab_ld, Ab_lm, Ab_lg, Ab_pd, Ab_px, Ab_py, Ab_pz, Ab_kn, Ab_kl, Ab_km]; exact h.le s hs
  · intro d x hx
    rcases get_app pre (k, row) d x hx with ⟨c1, e⟩ | ⟨c1, e⟩
    · simp (disch := omega) only [jI_lit, jL_lit, jI_n, jI_add, jI_sub, jI_mul, jI_neg, jL_add, jL_sub, jL_mul, jL_neg, jI_lt, jI_le, jI_eq, jL_lt, jL_le, jL_eq, jI_c, jI_64, jL_32, jI_div, jL_div, jx, bnd, if_true, if_false, if_pos, if_neg, Int.toNat_natCast, Int.reduceToNat, Int.add_zero, Int.zero_add, Int.reduceAdd, Int.reduceSub, Int.reduceMul, Int.reduceNeg, Int.reduceLT, Int.reduceLE, jI_rem, sI_1, sI_2, sA_1, sA_2, sA_3, sL_1, sL_2, sL_3, upd_a, updL_a, vaup_a, Nat.reduceEqDiff, Ab_sz, Ab_tx, Ab_ns, Ab_sn, Ab_sx, Ab_ru, Ab_nl, Ab_lsh, Ab_ld, Ab_lm, Ab_lg, Ab_pd, Ab_px, Ab_py, Ab_pz, Ab_kn, Ab_kl, Ab_km]; exact h.pk d x e
    · subst e; subst c1; simp (disch := omega) only [jI_lit, jL_lit, jI_n, jI_add, jI_sub, jI_mul, jI_neg, jL_add, jL_sub, jL_mul, jL_neg, jI_lt, jI_le, jI_eq, jL_lt, jL_le, jL_eq, jI_c, jI_64, jL_32, jI_div, jL_div, jx, bnd, if_true, if_false, if_pos, if_neg, Int.toNat_natCast, Int.reduceToNat, Int.add_zero, Int.zero_add, Int.reduceAdd, Int.reduceSub, Int.reduceMul, Int.reduceNeg, Int.reduceLT, Int.reduceLE, jI_rem, sI_1, sI_2, sA_1, sA_2, sA_3, sL_1, sL_2, sL_3, upd_a, updL_a, vaup_a, Nat.reduceEqDiff, Ab_sz, Ab_tx, Ab_ns, Ab_sn, Ab_sx, Ab_ru, Ab_nl, Ab_lsh, Ab_ld, Ab_lm, Ab_lg, Ab_pd, Ab_px, Ab_py, Ab_pz, Ab_kn, Ab_kl, Ab_km]; exact ⟨hk, trivial⟩
  · intro d x hx; simp (disch := omega) only [jI_lit, jL_lit, jI_n, jI_add, jI_sub, jI_mul, jI_neg, jL_add, jL_sub, jL_mul, jL_neg, jI_lt, jI_le, jI_eq, jL_lt, jL_le, jL_eq, jI_c, jI_64, jL_32, jI_div, jL_div, jx, bnd, if_true, if_false, if_pos, if_neg, Int.toNat_natCast, Int.reduceToNat, Int.add_zero, Int.zero_add, Int.reduceAdd, Int.reduceSub, Int.reduceMul, Int.reduceNeg, Int.reduceLT, Int.reduceLE, jI_rem, sI_1, sI_2, sA_1, sA_2, sA_3, sL_1, sL_2, sL_3, upd_a, updL_a, vaup_a, Nat.reduceEqDiff, Ab_sz, Ab_tx, Ab_ns, Ab_sn, Ab_sx, Ab_ru, Ab_nl, Ab_lsh, Ab_ld, Ab_lm, Ab_lg, Ab_pd, Ab_px, Ab_py, Ab_pz, Ab_kn, Ab_kl, Ab_km]; exact h.wk d x hx
theorem RW.pop {x : Nat × Nat} (h : RW kn sz S fl c left (pre ++ [x]) b lw) : RW kn sz S fl c left pre b lw ∧ lw.2.1 4 pre.length = jI x.1 := by
  refine ⟨⟨h.k0, h.bv, h.bb, h.su, h.fo, h.zi, h.le, fun d y hy => h.pk d y ?_, h.wk⟩, (h.pk pre.length x (by simp)).1⟩
  rw [List.getElem?_append_left (List.getElem?_eq_some_iff.mp hy).1]; exact hy
theorem c_rows (H : HW kn c sz S fl left0) (rc : MS → Int32 → Int32 → Int32 → Option (Unit × MS)) {r rest : Nat} (hr0 : 0 < rest) (hrc : rest < 2 ^ c) (hrr : rest < 2 ^ (r + 1)) {k cost : Nat} (hk : k < kn) (hlk : left0 k ≠ 0) (hpl : pre.length + (r + 1) ≤ 8) (hcost : cost ≤ 4000000) (hll : ∀ j, j < kn → left j ≠ 0 → left0 j ≠ 0)
    (h0 : ∀ (pre : Way) (b : Bst) (lw : MS), pre.length ≤ 8 → RW kn sz S fl c left pre b lw → ∃ l2, rc lw (jI pre.length) (jI 0) (jI cost) = some ((), l2) ∧ RW kn sz S fl c left pre (cost, pre) l2)
    (h1 : ∀ (rest : Nat) (pr : Way) (b : Bst) (lw : MS), pr.length = pre.length + 1 → 0 < rest → rest < 2 ^ r → rest < 2 ^ c → pr.length + r ≤ 8 → b.1 ≤ 268435456 → RW kn sz S fl c left pr b lw → ∃ l2, rc lw (jI pr.length) (jI rest) (jI cost) = some ((), l2) ∧ RW kn sz S fl c left pr (srch kn sz S r rest left pr cost b) l2) :
    ∀ (n m row : Nat) (b : Bst) (lw : MS), row < n → row < m → row &&& rest = row → row ≤ rest → b.1 ≤ 268435456 → RW kn sz S fl c left pre b lw → lw.2.1 4 pre.length = jI k →
    ∃ v l2, l_Lw_searchRows_22 rc n (jI pre.length) (jI rest) (jI cost) (jI (hbit rest)) (jI (sz k)) (jI row) lw = some (v, l2) ∧ RW kn sz S fl c left pre ((rowsF rest (hbit rest) m row).foldl (oneRow (srch kn sz S r) S (sz k) k rest left pre cost) b) l2 ∧ l2.2.1 4 pre.length = jI k := by
  intro n
  have hc8 : (2 : Nat) ^ c ≤ 2 ^ 8 := Nat.pow_le_pow_right (by omega) H.c8
  have hp := hbit_p rest
  have hhl := hbit_le hr0
  have hhp := hbit_pow hr0 hrr
  have hlt := hbit_lt rest
  have hsz := H.zb k hk
  induction n with
  | zero => intro m row b lw h; omega
  | succ n ih =>
    intro m row b lw hn hm hs hle hb rw hkk
    obtain ⟨m, rfl⟩ : ∃ x, m = x + 1 := ⟨m - 1, by omega⟩
    simp only [rowsF]
    rw [l_Lw_searchRows_22]
    by_cases c1 : row < hbit rest
    · rw [if_pos c1, if_pos (by simp (disch := omega) only [jI_lit, jL_lit, jI_n, jI_add, jI_sub, jI_mul, jI_neg, jL_add, jL_sub, jL_mul, jL_neg, jI_lt, jI_le, jI_eq, jL_lt, jL_le, jL_eq, jI_c, jI_64, jL_32, jI_div, jL_div, jx, bnd, if_true, if_false, if_pos, if_neg, Int.toNat_natCast, Int.reduceToNat, Int.add_zero, Int.zero_add, Int.reduceAdd, Int.reduceSub, Int.reduceMul, Int.reduceNeg, Int.reduceLT, Int.reduceLE, jI_rem, sI_1, sI_2, sA_1, sA_2, sA_3, sL_1, sL_2, sL_3, upd_a, updL_a, vaup_a, Nat.reduceEqDiff, Ab_sz, Ab_tx, Ab_ns, Ab_sn, Ab_sx, Ab_ru, Ab_nl, Ab_lsh, Ab_ld, Ab_lm, Ab_lg, Ab_pd, Ab_px, Ab_py, Ab_pz, Ab_kn, Ab_kl, Ab_km]; omega)]
      exact ⟨_, lw, rfl, rw, hkk⟩
    · rw [if_neg c1, if_neg (by simp (disch := omega) only [jI_lit, jL_lit, jI_n, jI_add, jI_sub, jI_mul, jI_neg, jL_add, jL_sub, jL_mul, jL_neg, jI_lt, jI_le, jI_eq, jL_lt, jL_le, jL_eq, jI_c, jI_64, jL_32, jI_div, jL_div, jx, bnd, if_true, if_false, if_pos, if_neg, Int.toNat_natCast, Int.reduceToNat, Int.add_zero, Int.zero_add, Int.reduceAdd, Int.reduceSub, Int.reduceMul, Int.reduceNeg, Int.reduceLT, Int.reduceLE, jI_rem, sI_1, sI_2, sA_1, sA_2, sA_3, sL_1, sL_2, sL_3, upd_a, updL_a, vaup_a, Nat.reduceEqDiff, Ab_sz, Ab_tx, Ab_ns, Ab_sn, Ab_sx, Ab_ru, Ab_nl, Ab_lsh, Ab_ld, Ab_lm, Ab_lg, Ab_pd, Ab_px, Ab_py, Ab_pz, Ab_kn, Ab_kl, Ab_km]; omega), jx (by omega) (by omega) (by omega)]
      have hS := H.sb row (by omega)
      have hF := H.fb (rest - row) (by omega)
      have hnx : (row - 1) &&& rest ≤ row - 1 := Nat.and_le_left
      have hnx2 : ((row - 1) &&& rest) &&& rest = (row - 1) &&& rest := by rw [Nat.and_assoc, Nat.and_self]
      have enx : (jI row - 1) &&& jI rest = jI (((row - 1) &&& rest : Nat) : Int) := by
        rw [← jI_and, show (1 : Int32) = jI 1 from rfl, jI_sub, show (row : Int) - 1 = ((row - 1 : Nat) : Int) from by omega]
      have erw : jI rest - jI row = jI ((rest - row : Nat) : Int) := by rw [jI_sub]; congr 1; omega
      rw [List.foldl_cons, erw, enx, show (jI row).toNatClampNeg = row from by rw [jI_c (by omega) (by omega)]; omega, rw.su row (by omega), show (jI ((rest - row : Nat) : Int)).toNatClampNeg = rest - row from by rw [jI_c (by omega) (by omega)]; omega, rw.fo (rest - row) (by omega), jx (by omega) (by omega) (by omega), rw.bv]
      simp only [if_true]
      by_cases c2 : sz k < S row
      · rw [if_pos (by simp (disch := omega) only [jI_lit, jL_lit, jI_n, jI_add, jI_sub, jI_mul, jI_neg, jL_add, jL_sub, jL_mul, jL_neg, jI_lt, jI_le, jI_eq, jL_lt, jL_le, jL_eq, jI_c, jI_64, jL_32, jI_div, jL_div, jx, bnd, if_true, if_false, if_pos, if_neg, Int.toNat_natCast, Int.reduceToNat, Int.add_zero, Int.zero_add, Int.reduceAdd, Int.reduceSub, Int.reduceMul, Int.reduceNeg, Int.reduceLT, Int.reduceLE, jI_rem, sI_1, sI_2, sA_1, sA_2, sA_3, sL_1, sL_2, sL_3, upd_a, updL_a, vaup_a, Nat.reduceEqDiff, Ab_sz, Ab_tx, Ab_ns, Ab_sn, Ab_sx, Ab_ru, Ab_nl, Ab_lsh, Ab_ld, Ab_lm, Ab_lg, Ab_pd, Ab_px, Ab_py, Ab_pz, Ab_kn, Ab_kl, Ab_km]; omega)]
        have e1 : oneRow (srch kn sz S r) S (sz k) k rest left pre cost b row = b := by
          unfold oneRow; rw [if_neg (by omega)]
        rw [e1]
        exact ih m _ b lw (by omega) (by omega) hnx2 (by omega) hb rw hkk
      · rw [if_neg (by simp (disch := omega) only [jI_lit, jL_lit, jI_n, jI_add, jI_sub, jI_mul, jI_neg, jL_add, jL_sub, jL_mul, jL_neg, jI_lt, jI_le, jI_eq, jL_lt, jL_le, jL_eq, jI_c, jI_64, jL_32, jI_div, jL_div, jx, bnd, if_true, if_false, if_pos, if_neg, Int.toNat_natCast, Int.reduceToNat, Int.add_zero, Int.zero_add, Int.reduceAdd, Int.reduceSub, Int.reduceMul, Int.reduceNeg, Int.reduceLT, Int.reduceLE, jI_rem, sI_1, sI_2, sA_1, sA_2, sA_3, sL_1, sL_2, sL_3, upd_a, updL_a, vaup_a, Nat.reduceEqDiff, Ab_sz, Ab_tx, Ab_ns, Ab_sn, Ab_sx, Ab_ru, Ab_nl, Ab_lsh, Ab_ld, Ab_lm, Ab_lg, Ab_pd, Ab_px, Ab_py, Ab_pz, Ab_kn, Ab_kl, Ab_km]; omega)]
        by_cases c3 : b.1 ≤ cost + fl (rest - row)
        · rw [if_pos (by simp (disch := omega) only [jI_lit, jL_lit, jI_n, jI_add, jI_sub, jI_mul, jI_neg, jL_add, jL_sub, jL_mul, jL_neg, jI_lt, jI_le, jI_eq, jL_lt, jL_le, jL_eq, jI_c, jI_64, jL_32, jI_div, jL_div, jx, bnd, if_true, if_false, if_pos, if_neg, Int.toNat_natCast, Int.reduceToNat, Int.add_zero, Int.zero_add, Int.reduceAdd, Int.reduceSub, Int.reduceMul, Int.reduceNeg, Int.reduceLT, Int.reduceLE, jI_rem, sI_1, sI_2, sA_1, sA_2, sA_3, sL_1, sL_2, sL_3, upd_a, updL_a, vaup_a, Nat.reduceEqDiff, Ab_sz, Ab_tx, Ab_ns, Ab_sn, Ab_sx, Ab_ru, Ab_nl, Ab_lsh, Ab_ld, Ab_lm, Ab_lg, Ab_pd, Ab_px, Ab_py, Ab_pz, Ab_kn, Ab_kl, Ab_km]; omega)]
          have e1 : oneRow (srch kn sz S r) S (sz k) k rest left pre cost b row = b := by
            unfold oneRow; rw [if_pos (by omega)]
            split
            · rename_i e; subst e
              rw [Nat.sub_self, H.f0] at c3
              rw [if_neg (by omega)]
            · rename_i e
              refine srch_prune (left0 := left0) (fl := fun s => if s < 2 ^ c then fl s else 0) (fun rest h1 h2 row h3 k h4 h5 h6 => ?_) (by rw [if_pos (by omega)]; exact H.f0) r (rest - row) left _ cost b (by omega) (by omega) hll (by rw [if_pos (by omega)]; exact c3)
              split
              · rename_i h7
                have := rows_mem h3
                rw [if_pos (by omega)]
                exact H.hf rest h1 h7 row h3 k h4 h5 h6
              · omega
          rw [e1]
          exact ih m _ b lw (by omega) (by omega) hnx2 (by omega) hb rw hkk
        · rw [if_neg (by simp (disch := omega) only [jI_lit, jL_lit, jI_n, jI_add, jI_sub, jI_mul, jI_neg, jL_add, jL_sub, jL_mul, jL_neg, jI_lt, jI_le, jI_eq, jL_lt, jL_le, jL_eq, jI_c, jI_64, jL_32, jI_div, jL_div, jx, bnd, if_true, if_false, if_pos, if_neg, Int.toNat_natCast, Int.reduceToNat, Int.add_zero, Int.zero_add, Int.reduceAdd, Int.reduceSub, Int.reduceMul, Int.reduceNeg, Int.reduceLT, Int.reduceLE, jI_rem, sI_1, sI_2, sA_1, sA_2, sA_3, sL_1, sL_2, sL_3, upd_a, updL_a, vaup_a, Nat.reduceEqDiff, Ab_sz, Ab_tx, Ab_ns, Ab_sn, Ab_sx, Ab_ru, Ab_nl, Ab_lsh, Ab_ld, Ab_lm, Ab_lg, Ab_pd, Ab_px, Ab_py, Ab_pz, Ab_kn, Ab_kl, Ab_km]; omega), jx (by omega) (by omega) (by omega)]
          simp only [if_true, bnd]
          have rw2 := rw.row hkk row
          have hlen : (pre ++ [(k, row)]).length = pre.length + 1 := by simp
          have ed : jI (pre.length : Int) + 1 = jI ((pre ++ [(k, row)]).length : Int) := by rw [hlen]; exact jI_add _ 1
          rw [show (jI (pre.length : Int)).toNatClampNeg = pre.length from by rw [jI_c (by omega) (by omega)]; omega, ed]
          by_cases c4 : row = rest
          · obtain ⟨l2, e2, r2⟩ := h0 (pre ++ [(k, row)]) b _ (by omega) rw2
            have e1 : oneRow (srch kn sz S r) S (sz k) k rest left pre cost b row = (cost, pre ++ [(k, row)]) := by
              unfold oneRow
              rw [c4, Nat.sub_self, H.f0] at c3
              rw [if_pos (by omega), if_pos c4, if_pos (by omega)]
            obtain ⟨r3, k3⟩ := r2.pop
            obtain ⟨v, l3, e3, r4⟩ := ih m ((row - 1) &&& rest) (cost, pre ++ [(k, row)]) l2 (by omega) (by omega) hnx2 (by omega) (by show cost ≤ _; omega) r3 k3
            refine ⟨v, l3, ?_, by rw [e1]; exact r4⟩
            rw [show ((rest - row : Nat) : Int) = 0 from by omega, e2]
            exact e3
          · obtain ⟨l2, e2, r2⟩ := h1 (rest - row) (pre ++ [(k, row)]) b _ hlen (by omega) (by omega) (by omega) (by omega) hb rw2
            have e1 : oneRow (srch kn sz S r) S (sz k) k rest left pre cost b row = srch kn sz S r (rest - row) left (pre ++ [(k, row)]) cost b := by
              unfold oneRow
              rw [if_pos (by omega), if_neg c4]
            obtain ⟨r3, k3⟩ := r2.pop
            have hb2 := srch_le (kn := kn) (sz := sz) (S := S) r (rest - row) left (pre ++ [(k, row)]) cost b
            obtain ⟨v, l3, e3, r4⟩ := ih m ((row - 1) &&& rest) _ l2 (by omega) (by omega) hnx2 (by omega) (by omega) r3 k3
            refine ⟨v, l3, ?_, by rw [e1]; exact r4⟩
            rw [e2]
            exact e3
end LW
section LW
theorem fold_le {α : Type} (f : Bst → α → Bst) (hf : ∀ b x, (f b x).1 ≤ b.1) : ∀ (l : List α) (b : Bst), (l.foldl f b).1 ≤ b.1 := by
  intro l
  induction l with
  | nil => intro b; exact Nat.le_refl _
  | cons x l ih => intro b; rw [List.foldl_cons]; exact Nat.le_trans (ih _) (hf b x)
theorem oneRow_le {kn : Nat} {sz S : Nat → Nat} {r s k rest cost : Nat} {left : Nat → Nat} {pre : Way} (l : List Nat) (b : Bst) : (l.foldl (oneRow (srch kn sz S r) S s k rest left pre cost) b).1 ≤ b.1 := by
  refine fold_le _ (fun b row => ?_) _ b
  unfold oneRow
  split
  · split
    · split
      · simp only; omega
      · exact Nat.le_refl _
    · exact srch_le _ _ _ _ _ _
  · exact Nat.le_refl _
variable {kn c : Nat} {sz S fl left left0 : Nat → Nat} {pre : Way} {b : Bst} {lw : MS}
theorem c_searchRows (H : HW kn c sz S fl left0) (rc : MS → Int32 → Int32 → Int32 → Option (Unit × MS)) {r rest : Nat} (hr0 : 0 < rest) (hrc : rest < 2 ^ c) (hrr : rest < 2 ^ (r + 1)) {k cost : Nat} (hk : k < kn) (hlk : left0 k ≠ 0) (hpl : pre.length + (r + 1) ≤ 8) (hcost : cost ≤ 4000000) (hll : ∀ j, j < kn → left j ≠ 0 → left0 j ≠ 0)
    (h0 : ∀ (pre : Way) (b : Bst) (lw : MS), pre.length ≤ 8 → RW kn sz S fl c left pre b lw → ∃ l2, rc lw (jI pre.length) (jI 0) (jI cost) = some ((), l2) ∧ RW kn sz S fl c left pre (cost, pre) l2)
    (h1 : ∀ (rest : Nat) (pr : Way) (b : Bst) (lw : MS), pr.length = pre.length + 1 → 0 < rest → rest < 2 ^ r → rest < 2 ^ c → pr.length + r ≤ 8 → b.1 ≤ 268435456 → RW kn sz S fl c left pr b lw → ∃ l2, rc lw (jI pr.length) (jI rest) (jI cost) = some ((), l2) ∧ RW kn sz S fl c left pr (srch kn sz S r rest left pr cost b) l2)
    (hb : b.1 ≤ 268435456) (rw : RW kn sz S fl c left pre b lw) (hkk : lw.2.1 4 pre.length = jI k) :
    ∃ l2, f_Lw_searchRows rc lw (jI pre.length) (jI rest) (jI cost) = some ((), l2) ∧ RW kn sz S fl c left pre ((rowsOf rest).foldl (oneRow (srch kn sz S r) S (sz k) k rest left pre cost) b) l2 := by
  have hc8 : (2 : Nat) ^ c ≤ 2 ^ 8 := Nat.pow_le_pow_right (by omega) H.c8
  have hk3 := H.k3
  obtain ⟨v, l2, e, r2, -⟩ := c_rows H rc hr0 hrc hrr hk hlk hpl hcost hll h0 h1 fu 256 rest b lw (by unfold fu; omega) (by omega) (Nat.and_self rest) (Nat.le_refl _) hb rw hkk
  refine ⟨l2, ?_, r2⟩
  unfold f_Lw_searchRows
  rw [c_hbit hr0 (by omega), bnd, jx (by omega) (by omega) (by omega), show (jI (pre.length : Int)).toNatClampNeg = pre.length from by rw [jI_c (by omega) (by omega)]; omega, hkk, jx (by omega) (by omega) (by omega), show (jI k).toNatClampNeg = k from by rw [jI_c (by omega) (by omega)]; omega, rw.zi k hk]
  simp only [if_true, bnd]
  rw [e]; rfl
theorem c_kinds (H : HW kn c sz S fl left0) (rc : MS → Int32 → Int32 → Int32 → Option (Unit × MS)) {r rest : Nat} (hr0 : 0 < rest) (hrc : rest < 2 ^ c) (hrr : rest < 2 ^ (r + 1)) {cost : Nat} (hpl : pre.length + (r + 1) ≤ 8) (hcost : cost ≤ 3500000) (hll : ∀ j, j < kn → left j ≠ 0 → left0 j ≠ 0) (hlb : ∀ j, j < kn → left j ≤ 20)
    (h0 : ∀ (left : Nat → Nat) (pre : Way) (cost : Nat) (b : Bst) (lw : MS), cost ≤ 4000000 → pre.length ≤ 8 → RW kn sz S fl c left pre b lw → ∃ l2, rc lw (jI pre.length) (jI 0) (jI cost) = some ((), l2) ∧ RW kn sz S fl c left pre (cost, pre) l2)
    (h1 : ∀ (left : Nat → Nat) (rest : Nat) (pre : Way) (cost : Nat) (b : Bst) (lw : MS), (∀ j, j < kn → left j ≠ 0 → left0 j ≠ 0) → (∀ j, j < kn → left j ≤ 20) → 0 < rest → rest < 2 ^ r → rest < 2 ^ c → pre.length + r ≤ 8 → cost ≤ 480001 * pre.length → b.1 ≤ 268435456 → RW kn sz S fl c left pre b lw → ∃ l2, rc lw (jI pre.length) (jI rest) (jI cost) = some ((), l2) ∧ RW kn sz S fl c left pre (srch kn sz S r rest left pre cost b) l2)
    (hc2 : cost ≤ 480001 * pre.length) :
    ∀ (m n k : Nat) (b : Bst) (lw : MS), k + m = kn → m < n → b.1 ≤ 268435456 → RW kn sz S fl c left pre b lw →
    ∃ v l2, l_Lw_search_21 rc n (jI pre.length) (jI rest) (jI cost) (jI k) lw = some (v, l2) ∧ RW kn sz S fl c left pre ((List.range' k m).foldl (oneKind (srch kn sz S r) sz S rest left pre cost) b) l2 := by
  intro m
  have hc8 : (2 : Nat) ^ c ≤ 2 ^ 8 := Nat.pow_le_pow_right (by omega) H.c8
  have hk3 := H.k3
  induction m with
  | zero =>
    intro n k b lw hk hn hb rw
    obtain ⟨n, rfl⟩ : ∃ x, n = x + 1 := ⟨n - 1, by omega⟩
    rw [l_Lw_search_21, rw.k0, if_pos (by simp (disch := omega) only [jI_lit, jL_lit, jI_n, jI_add, jI_sub, jI_mul, jI_neg, jL_add, jL_sub, jL_mul, jL_neg, jI_lt, jI_le, jI_eq, jL_lt, jL_le, jL_eq, jI_c, jI_64, jL_32, jI_div, jL_div, jx, bnd, if_true, if_false, if_pos, if_neg, Int.toNat_natCast, Int.reduceToNat, Int.add_zero, Int.zero_add, Int.reduceAdd, Int.reduceSub, Int.reduceMul, Int.reduceNeg, Int.reduceLT, Int.reduceLE, jI_rem, sI_1, sI_2, sA_1, sA_2, sA_3, sL_1, sL_2, sL_3, upd_a, updL_a, vaup_a, Nat.reduceEqDiff, Ab_sz, Ab_tx, Ab_ns, Ab_sn, Ab_sx, Ab_ru, Ab_nl, Ab_lsh, Ab_ld, Ab_lm, Ab_lg, Ab_pd, Ab_px, Ab_py, Ab_pz, Ab_kn, Ab_kl, Ab_km]; omega)]
    exact ⟨_, lw, rfl, rw⟩
  | succ m ih =>
    intro n k b lw hk hn hb rw
    obtain ⟨n, rfl⟩ : ∃ x, n = x + 1 := ⟨n - 1, by omega⟩
    have hkn : k < kn := by omega
    have hsz := H.zb k hkn
    have hl := hlb k hkn
    rw [List.range'_succ, List.foldl_cons, l_Lw_search_21, rw.k0, if_neg (by simp (disch := omega) only [jI_lit, jL_lit, jI_n, jI_add, jI_sub, jI_mul, jI_neg, jL_add, jL_sub, jL_mul, jL_neg, jI_lt, jI_le, jI_eq, jL_lt, jL_le, jL_eq, jI_c, jI_64, jL_32, jI_div, jL_div, jx, bnd, if_true, if_false, if_pos, if_neg, Int.toNat_natCast, Int.reduceToNat, Int.add_zero, Int.zero_add, Int.reduceAdd, Int.reduceSub, Int.reduceMul, Int.reduceNeg, Int.reduceLT, Int.reduceLE, jI_rem, sI_1, sI_2, sA_1, sA_2, sA_3, sL_1, sL_2, sL_3, upd_a, updL_a, vaup_a, Nat.reduceEqDiff, Ab_sz, Ab_tx, Ab_ns, Ab_sn, Ab_sx, Ab_ru, Ab_nl, Ab_lsh, Ab_ld, Ab_lm, Ab_lg, Ab_pd, Ab_px, Ab_py, Ab_pz, Ab_kn, Ab_kl, Ab_km]; omega), jx (by omega) (by omega) (by omega), show (jI k).toNatClampNeg = k from by rw [jI_c (by omega) (by omega)]; omega, rw.le k hkn, show jI (k : Int) + 1 = jI ((k + 1 : Nat) : Int) from jI_add _ 1]
    simp only [if_true]
    by_cases c1 : left k = 0
    · rw [if_pos (by simp (disch := omega) only [jI_lit, jL_lit, jI_n, jI_add, jI_sub, jI_mul, jI_neg, jL_add, jL_sub, jL_mul, jL_neg, jI_lt, jI_le, jI_eq, jL_lt, jL_le, jL_eq, jI_c, jI_64, jL_32, jI_div, jL_div, jx, bnd, if_true, if_false, if_pos, if_neg, Int.toNat_natCast, Int.reduceToNat, Int.add_zero, Int.zero_add, Int.reduceAdd, Int.reduceSub, Int.reduceMul, Int.reduceNeg, Int.reduceLT, Int.reduceLE, jI_rem, sI_1, sI_2, sA_1, sA_2, sA_3, sL_1, sL_2, sL_3, upd_a, updL_a, vaup_a, Nat.reduceEqDiff, Ab_sz, Ab_tx, Ab_ns, Ab_sn, Ab_sx, Ab_ru, Ab_nl, Ab_lsh, Ab_ld, Ab_lm, Ab_lg, Ab_pd, Ab_px, Ab_py, Ab_pz, Ab_kn, Ab_kl, Ab_km]; omega), show oneKind (srch kn sz S r) sz S rest left pre cost b k = b from by unfold oneKind; rw [if_pos c1]]
      exact ih n (k + 1) b lw (by omega) (by omega) hb rw
    · rw [if_neg (by simp (disch := omega) only [jI_lit, jL_lit, jI_n, jI_add, jI_sub, jI_mul, jI_neg, jL_add, jL_sub, jL_mul, jL_neg, jI_lt, jI_le, jI_eq, jL_lt, jL_le, jL_eq, jI_c, jI_64, jL_32, jI_div, jL_div, jx, bnd, if_true, if_false, if_pos, if_neg, Int.toNat_natCast, Int.reduceToNat, Int.add_zero, Int.zero_add, Int.reduceAdd, Int.reduceSub, Int.reduceMul, Int.reduceNeg, Int.reduceLT, Int.reduceLE, jI_rem, sI_1, sI_2, sA_1, sA_2, sA_3, sL_1, sL_2, sL_3, upd_a, updL_a, vaup_a, Nat.reduceEqDiff, Ab_sz, Ab_tx, Ab_ns, Ab_sn, Ab_sx, Ab_ru, Ab_nl, Ab_lsh, Ab_ld, Ab_lm, Ab_lg, Ab_pd, Ab_px, Ab_py, Ab_pz, Ab_kn, Ab_kl, Ab_km]; omega), jx (by omega) (by omega) (by omega)]
      simp only [if_true, bnd]
      rw [show (jI (pre.length : Int)).toNatClampNeg = pre.length from by rw [jI_c (by omega) (by omega)]; omega]
      have rw2 : RW kn sz S fl c (decK left k) pre b (sA (sA lw 3 (upd (lw.2.1 3) k (jI (left k) - 1))) 4 (upd ((sA lw 3 (upd (lw.2.1 3) k (jI (left k) - 1))).2.1 4) pre.length (jI k))) := by
        refine ⟨rw.k0, rw.bv, rw.bb, ?_, ?_, ?_, ?_, ?_, ?_⟩
        · intro s hs; simp (disch := omega) only [jI_lit, jL_lit, jI_n, jI_add, jI_sub, jI_mul, jI_neg, jL_add, jL_sub, jL_mul, jL_neg, jI_lt, jI_le, jI_eq, jL_lt, jL_le, jL_eq, jI_c, jI_64, jL_32, jI_div, jL_div, jx, bnd, if_true, if_false, if_pos, if_neg, Int.toNat_natCast, Int.reduceToNat, Int.add_zero, Int.zero_add, Int.reduceAdd, Int.reduceSub, Int.reduceMul, Int.reduceNeg, Int.reduceLT, Int.reduceLE, jI_rem, sI_1, sI_2, sA_1, sA_2, sA_3, sL_1, sL_2, sL_3, upd_a, updL_a, vaup_a, Nat.reduceEqDiff, Ab_sz, Ab_tx, Ab_ns, Ab_sn, Ab_sx, Ab_ru, Ab_nl, Ab_lsh, Ab_ld, Ab_lm, Ab_lg, Ab_pd, Ab_px, Ab_py, Ab_pz, Ab_kn, Ab_kl, Ab_km]; exact rw.su s hs
        · intro s hs; simp (disch := omega) only [jI_lit, jL_lit, jI_n, jI_add, jI_sub, jI_mul, jI_neg, jL_add, jL_sub, jL_mul, jL_neg, jI_lt, jI_le, jI_eq, jL_lt, jL_le, jL_eq, jI_c, jI_64, jL_32, jI_div, jL_div, jx, bnd, if_true, if_false, if_pos, if_neg, Int.toNat_natCast, Int.reduceToNat, Int.add_zero, Int.zero_add, Int.reduceAdd, Int.reduceSub, Int.reduceMul, Int.reduceNeg, Int.reduceLT, Int.reduceLE, jI_rem, sI_1, sI_2, sA_1, sA_2, sA_3, sL_1, sL_2, sL_3, upd_a, updL_a, vaup_a, Nat.reduceEqDiff, Ab_sz, Ab_tx, Ab_ns, Ab_sn, Ab_sx, Ab_ru, Ab_nl, Ab_lsh, Ab_ld, Ab_lm, Ab_lg, Ab_pd, Ab_px, Ab_py, Ab_pz, Ab_kn, Ab_kl, Ab_km]; exact rw.fo s hs
        · intro s hs; simp (disch := omega) only [jI_lit, jL_lit, jI_n, jI_add, jI_sub, jI_mul, jI_neg, jL_add, jL_sub, jL_mul, jL_neg, jI_lt, jI_le, jI_eq, jL_lt, jL_le, jL_eq, jI_c, jI_64, jL_32, jI_div, jL_div, jx, bnd, if_true, if_false, if_pos, if_neg, Int.toNat_natCast, Int.reduceToNat, Int.add_zero, Int.zero_add, Int.reduceAdd, Int.reduceSub, Int.reduceMul, Int.reduceNeg, Int.reduceLT, Int.reduceLE, jI_rem, sI_1, sI_2, sA_1, sA_2, sA_3, sL_1, sL_2, sL_3, upd_a, updL_a, vaup_a, Nat.reduceEqDiff, Ab_sz, Ab_tx, Ab_ns, Ab_sn, Ab_sx, Ab_ru, Ab_nl, Ab_lsh, Ab_ld, Ab_lm, Ab_lg, Ab_pd, Ab_px, Ab_py, Ab_pz, Ab_kn, Ab_kl, Ab_km]; exact rw.zi s hs
        · intro s hs
          unfold decK
          by_cases e : s = k
          · subst e; simp (disch := omega) only [jI_lit, jL_lit, jI_n, jI_add, jI_sub, jI_mul, jI_neg, jL_add, jL_sub, jL_mul, jL_neg, jI_lt, jI_le, jI_eq, jL_lt, jL_le, jL_eq, jI_c, jI_64, jL_32, jI_div, jL_div, jx, bnd, if_true, if_false, if_pos, if_neg, Int.toNat_natCast, Int.reduceToNat, Int.add_zero, Int.zero_add, Int.reduceAdd, Int.reduceSub, Int.reduceMul, Int.reduceNeg, Int.reduceLT, Int.reduceLE, jI_rem, sI_1, sI_2, sA_1, sA_2, sA_3, sL_1, sL_2, sL_3, upd_a, updL_a, vaup_a, Nat.reduceEqDiff, Ab_sz, Ab_tx, Ab_ns, Ab_sn, Ab_sx, Ab_ru, Ab_nl, Ab_lsh, Ab_ld, Ab_lm, Ab_lg, Ab_pd, Ab_px, Ab_py, Ab_pz, Ab_kn, Ab_kl, Ab_km]; congr 1; omega
          · simp (disch := omega) only [jI_lit, jL_lit, jI_n, jI_add, jI_sub, jI_mul, jI_neg, jL_add, jL_sub, jL_mul, jL_neg, jI_lt, jI_le, jI_eq, jL_lt, jL_le, jL_eq, jI_c, jI_64, jL_32, jI_div, jL_div, jx, bnd, if_true, if_false, if_pos, if_neg, Int.toNat_natCast, Int.reduceToNat, Int.add_zero, Int.zero_add, Int.reduceAdd, Int.reduceSub, Int.reduceMul, Int.reduceNeg, Int.reduceLT, Int.reduceLE, jI_rem, sI_1, sI_2, sA_1, sA_2, sA_3, sL_1, sL_2, sL_3, upd_a, updL_a, vaup_a, Nat.reduceEqDiff, Ab_sz, Ab_tx, Ab_ns, Ab_sn, Ab_sx, Ab_ru, Ab_nl, Ab_lsh, Ab_ld, Ab_lm, Ab_lg, Ab_pd, Ab_px, Ab_py, Ab_pz, Ab_kn, Ab_kl, Ab_km]; exact rw.le s hs
        · intro d x hx
          have := (List.getElem?_eq_some_iff.mp hx).1
          simp (disch := omega) only [jI_lit, jL_lit, jI_n, jI_add, jI_sub, jI_mul, jI_neg, jL_add, jL_sub, jL_mul, jL_neg, jI_lt, jI_le, jI_eq, jL_lt, jL_le, jL_eq, jI_c, jI_64, jL_32, jI_div, jL_div, jx, bnd, if_true, if_false, if_pos, if_neg, Int.toNat_natCast, Int.reduceToNat, Int.add_zero, Int.zero_add, Int.reduceAdd, Int.reduceSub, Int.reduceMul, Int.reduceNeg, Int.reduceLT, Int.reduceLE, jI_rem, sI_1, sI_2, sA_1, sA_2, sA_3, sL_1, sL_2, sL_3, upd_a, updL_a, vaup_a, Nat.reduceEqDiff, Ab_sz, Ab_tx, Ab_ns, Ab_sn, Ab_sx, Ab_ru, Ab_nl, Ab_lsh, Ab_ld, Ab_lm, Ab_lg, Ab_pd, Ab_px, Ab_py, Ab_pz, Ab_kn, Ab_kl, Ab_km]; exact rw.pk d x hx
        · intro d x hx; simp (disch := omega) only [jI_lit, jL_lit, jI_n, jI_add, jI_sub, jI_mul, jI_neg, jL_add, jL_sub, jL_mul, jL_neg, jI_lt, jI_le, jI_eq, jL_lt, jL_le, jL_eq, jI_c, jI_64, jL_32, jI_div, jL_div, jx, bnd, if_true, if_false, if_pos, if_neg, Int.toNat_natCast, Int.reduceToNat, Int.add_zero, Int.zero_add, Int.reduceAdd, Int.reduceSub, Int.reduceMul, Int.reduceNeg, Int.reduceLT, Int.reduceLE, jI_rem, sI_1, sI_2, sA_1, sA_2, sA_3, sL_1, sL_2, sL_3, upd_a, updL_a, vaup_a, Nat.reduceEqDiff, Ab_sz, Ab_tx, Ab_ns, Ab_sn, Ab_sx, Ab_ru, Ab_nl, Ab_lsh, Ab_ld, Ab_lm, Ab_lg, Ab_pd, Ab_px, Ab_py, Ab_pz, Ab_kn, Ab_kl, Ab_km]; exact rw.wk d x hx
      have hkk : (sA (sA lw 3 (upd (lw.2.1 3) k (jI (left k) - 1))) 4 (upd ((sA lw 3 (upd (lw.2.1 3) k (jI (left k) - 1))).2.1 4) pre.length (jI k))).2.1 4 pre.length = jI k := by simp (disch := omega) only [jI_lit, jL_lit, jI_n, jI_add, jI_sub, jI_mul, jI_neg, jL_add, jL_sub, jL_mul, jL_neg, jI_lt, jI_le, jI_eq, jL_lt, jL_le, jL_eq, jI_c, jI_64, jL_32, jI_div, jL_div, jx, bnd, if_true, if_false, if_pos, if_neg, Int.toNat_natCast, Int.reduceToNat, Int.add_zero, Int.zero_add, Int.reduceAdd, Int.reduceSub, Int.reduceMul, Int.reduceNeg, Int.reduceLT, Int.reduceLE, jI_rem, sI_1, sI_2, sA_1, sA_2, sA_3, sL_1, sL_2, sL_3, upd_a, updL_a, vaup_a, Nat.reduceEqDiff, Ab_sz, Ab_tx, Ab_ns, Ab_sn, Ab_sx, Ab_ru, Ab_nl, Ab_lsh, Ab_ld, Ab_lm, Ab_lg, Ab_pd, Ab_px, Ab_py, Ab_pz, Ab_kn, Ab_kl, Ab_km]
      have hzz := rw2.zi k hkn
      have hdl : ∀ j, j < kn → decK left k j ≠ 0 → left0 j ≠ 0 := fun j hj h => hll j hj (by unfold decK at h; split at h <;> omega)
      have hdb : ∀ j, j < kn → decK left k j ≤ 20 := fun j hj => by have := hlb j hj; unfold decK; split <;> omega
      generalize (sA (sA lw 3 (upd (lw.2.1 3) k (jI (left k) - 1))) 4 (upd ((sA lw 3 (upd (lw.2.1 3) k (jI (left k) - 1))).2.1 4) pre.length (jI k))) = lwx at rw2 hkk hzz ⊢
      have ec : f_Lw_costOfBar lwx (jI k) = some (jI ((16 * sz k + 1 : Nat) : Int)) := by
        unfold f_Lw_costOfBar
        rw [jx (by omega) (by omega) (by omega), show (jI k).toNatClampNeg = k from by rw [jI_c (by omega) (by omega)]; omega, hzz]
        simp (disch := omega) only [jI_lit, jL_lit, jI_n, jI_add, jI_sub, jI_mul, jI_neg, jL_add, jL_sub, jL_mul, jL_neg, jI_lt, jI_le, jI_eq, jL_lt, jL_le, jL_eq, jI_c, jI_64, jL_32, jI_div, jL_div, jx, bnd, if_true, if_false, if_pos, if_neg, Int.toNat_natCast, Int.reduceToNat, Int.add_zero, Int.zero_add, Int.reduceAdd, Int.reduceSub, Int.reduceMul, Int.reduceNeg, Int.reduceLT, Int.reduceLE, jI_rem, sI_1, sI_2, sA_1, sA_2, sA_3, sL_1, sL_2, sL_3, upd_a, updL_a, vaup_a, Nat.reduceEqDiff, Ab_sz, Ab_tx, Ab_ns, Ab_sn, Ab_sx, Ab_ru, Ab_nl, Ab_lsh, Ab_ld, Ab_lm, Ab_lg, Ab_pd, Ab_px, Ab_py, Ab_pz, Ab_kn, Ab_kl, Ab_km]
        congr 2; omega
      rw [ec, bnd, show jI (cost : Int) + jI ((16 * sz k + 1 : Nat) : Int) = jI ((cost + (16 * sz k + 1) : Nat) : Int) from jI_add _ _]
      obtain ⟨l2, e2, r2⟩ := c_searchRows (cost := cost + (16 * sz k + 1)) H rc hr0 hrc hrr hkn (hll k hkn c1) hpl (by omega) hdl
        (fun pre b lw hp hr => h0 (decK left k) pre _ b lw (by omega) hp hr)
        (fun rest pre2 b lw h2 h3 h4 h5 h6 h7 h8 => h1 (decK left k) rest pre2 (cost + (16 * sz k + 1)) b lw hdl hdb h3 h4 h5 h6 (by rw [h2]; omega) h7 h8) hb rw2 hkk
      have ek : oneKind (srch kn sz S r) sz S rest left pre cost b k = (rowsOf rest).foldl (oneRow (srch kn sz S r) S (sz k) k rest (decK left k) pre (cost + (16 * sz k + 1))) b := by
        unfold oneKind; rw [if_neg c1]
      rw [ek, e2]
      have hb2 : ((rowsOf rest).foldl (oneRow (srch kn sz S r) S (sz k) k rest (decK left k) pre (cost + (16 * sz k + 1))) b).1 ≤ b.1 := oneRow_le _ _
      generalize (rowsOf rest).foldl (oneRow (srch kn sz S r) S (sz k) k rest (decK left k) pre (cost + (16 * sz k + 1))) b = b2 at r2 hb2
      simp only [bnd]
      have rw3 : RW kn sz S fl c left pre b2 (sA l2 3 (upd (l2.2.1 3) k (l2.2.1 3 k + 1))) := by
        refine ⟨r2.k0, r2.bv, r2.bb, ?_, ?_, ?_, ?_, ?_, ?_⟩
        · intro s hs; simp (disch := omega) only [jI_lit, jL_lit, jI_n, jI_add, jI_sub, jI_mul, jI_neg, jL_add, jL_sub, jL_mul, jL_neg, jI_lt, jI_le, jI_eq, jL_lt, jL_le, jL_eq, jI_c, jI_64, jL_32, jI_div, jL_div, jx, bnd, if_true, if_false, if_pos, if_neg, Int.toNat_natCast, Int.reduceToNat, Int.add_zero, Int.zero_add, Int.reduceAdd, Int.reduceSub, Int.reduceMul, Int.reduceNeg, Int.reduceLT, Int.reduceLE, jI_rem, sI_1, sI_2, sA_1, sA_2, sA_3, sL_1, sL_2, sL_3, upd_a, updL_a, vaup_a, Nat.reduceEqDiff, Ab_sz, Ab_tx, Ab_ns, Ab_sn, Ab_sx, Ab_ru, Ab_nl, Ab_lsh, Ab_ld, Ab_lm, Ab_lg, Ab_pd, Ab_px, Ab_py, Ab_pz, Ab_kn, Ab_kl, Ab_km]; exact r2.su s hs
        · intro s hs; simp (disch := omega) only [jI_lit, jL_lit, jI_n, jI_add, jI_sub, jI_mul, jI_neg, jL_add, jL_sub, jL_mul, jL_neg, jI_lt, jI_le, jI_eq, jL_lt, jL_le, jL_eq, jI_c, jI_64, jL_32, jI_div, jL_div, jx, bnd, if_true, if_false, if_pos, if_neg, Int.toNat_natCast, Int.reduceToNat, Int.add_zero, Int.zero_add, Int.reduceAdd, Int.reduceSub, Int.reduceMul, Int.reduceNeg, Int.reduceLT, Int.reduceLE, jI_rem, sI_1, sI_2, sA_1, sA_2, sA_3, sL_1, sL_2, sL_3, upd_a, updL_a, vaup_a, Nat.reduceEqDiff, Ab_sz, Ab_tx, Ab_ns, Ab_sn, Ab_sx, Ab_ru, Ab_nl, Ab_lsh, Ab_ld, Ab_lm, Ab_lg, Ab_pd, Ab_px, Ab_py, Ab_pz, Ab_kn, Ab_kl, Ab_km]; exact r2.fo s hs
        · intro s hs; simp (disch := omega) only [jI_lit, jL_lit, jI_n, jI_add, jI_sub, jI_mul, jI_neg, jL_add, jL_sub, jL_mul, jL_neg, jI_lt, jI_le, jI_eq, jL_lt, jL_le, jL_eq, jI_c, jI_64, jL_32, jI_div, jL_div, jx, bnd, if_true, if_false, if_pos, if_neg, Int.toNat_natCast, Int.reduceToNat, Int.add_zero, Int.zero_add, Int.reduceAdd, Int.reduceSub, Int.reduceMul, Int.reduceNeg, Int.reduceLT, Int.reduceLE, jI_rem, sI_1, sI_2, sA_1, sA_2, sA_3, sL_1, sL_2, sL_3, upd_a, updL_a, vaup_a, Nat.reduceEqDiff, Ab_sz, Ab_tx, Ab_ns, Ab_sn, Ab_sx, Ab_ru, Ab_nl, Ab_lsh, Ab_ld, Ab_lm, Ab_lg, Ab_pd, Ab_px, Ab_py, Ab_pz, Ab_kn, Ab_kl, Ab_km]; exact r2.zi s hs
        · intro s hs
          have h5 := r2.le s hs
          unfold decK at h5
          by_cases e : s = k
          · subst e
            rw [if_pos rfl] at h5
            simp (disch := omega) only [jI_lit, jL_lit, jI_n, jI_add, jI_sub, jI_mul, jI_neg, jL_add, jL_sub, jL_mul, jL_neg, jI_lt, jI_le, jI_eq, jL_lt, jL_le, jL_eq, jI_c, jI_64, jL_32, jI_div, jL_div, jx, bnd, if_true, if_false, if_pos, if_neg, Int.toNat_natCast, Int.reduceToNat, Int.add_zero, Int.zero_add, Int.reduceAdd, Int.reduceSub, Int.reduceMul, Int.reduceNeg, Int.reduceLT, Int.reduceLE, jI_rem, sI_1, sI_2, sA_1, sA_2, sA_3, sL_1, sL_2, sL_3, upd_a, updL_a, vaup_a, Nat.reduceEqDiff, Ab_sz, Ab_tx, Ab_ns, Ab_sn, Ab_sx, Ab_ru, Ab_nl, Ab_lsh, Ab_ld, Ab_lm, Ab_lg, Ab_pd, Ab_px, Ab_py, Ab_pz, Ab_kn, Ab_kl, Ab_km, h5]; congr 1; omega
          · rw [if_neg e] at h5
            simp (disch := omega) only [jI_lit, jL_lit, jI_n, jI_add, jI_sub, jI_mul, jI_neg, jL_add, jL_sub, jL_mul, jL_neg, jI_lt, jI_le, jI_eq, jL_lt, jL_le, jL_eq, jI_c, jI_64, jL_32, jI_div, jL_div, jx, bnd, if_true, if_false, if_pos, if_neg, Int.toNat_natCast, Int.reduceToNat, Int.add_zero, Int.zero_add, Int.reduceAdd, Int.reduceSub, Int.reduceMul, Int.reduceNeg, Int.reduceLT, Int.reduceLE, jI_rem, sI_1, sI_2, sA_1, sA_2, sA_3, sL_1, sL_2, sL_3, upd_a, updL_a, vaup_a, Nat.reduceEqDiff, Ab_sz, Ab_tx, Ab_ns, Ab_sn, Ab_sx, Ab_ru, Ab_nl, Ab_lsh, Ab_ld, Ab_lm, Ab_lg, Ab_pd, Ab_px, Ab_py, Ab_pz, Ab_kn, Ab_kl, Ab_km]; exact h5
        · intro d x hx; simp (disch := omega) only [jI_lit, jL_lit, jI_n, jI_add, jI_sub, jI_mul, jI_neg, jL_add, jL_sub, jL_mul, jL_neg, jI_lt, jI_le, jI_eq, jL_lt, jL_le, jL_eq, jI_c, jI_64, jL_32, jI_div, jL_div, jx, bnd, if_true, if_false, if_pos, if_neg, Int.toNat_natCast, Int.reduceToNat, Int.add_zero, Int.zero_add, Int.reduceAdd, Int.reduceSub, Int.reduceMul, Int.reduceNeg, Int.reduceLT, Int.reduceLE, jI_rem, sI_1, sI_2, sA_1, sA_2, sA_3, sL_1, sL_2, sL_3, upd_a, updL_a, vaup_a, Nat.reduceEqDiff, Ab_sz, Ab_tx, Ab_ns, Ab_sn, Ab_sx, Ab_ru, Ab_nl, Ab_lsh, Ab_ld, Ab_lm, Ab_lg, Ab_pd, Ab_px, Ab_py, Ab_pz, Ab_kn, Ab_kl, Ab_km]; exact r2.pk d x hx
        · intro d x hx; simp (disch := omega) only [jI_lit, jL_lit, jI_n, jI_add, jI_sub, jI_mul, jI_neg, jL_add, jL_sub, jL_mul, jL_neg, jI_lt, jI_le, jI_eq, jL_lt, jL_le, jL_eq, jI_c, jI_64, jL_32, jI_div, jL_div, jx, bnd, if_true, if_false, if_pos, if_neg, Int.toNat_natCast, Int.reduceToNat, Int.add_zero, Int.zero_add, Int.reduceAdd, Int.reduceSub, Int.reduceMul, Int.reduceNeg, Int.reduceLT, Int.reduceLE, jI_rem, sI_1, sI_2, sA_1, sA_2, sA_3, sL_1, sL_2, sL_3, upd_a, updL_a, vaup_a, Nat.reduceEqDiff, Ab_sz, Ab_tx, Ab_ns, Ab_sn, Ab_sx, Ab_ru, Ab_nl, Ab_lsh, Ab_ld, Ab_lm, Ab_lg, Ab_pd, Ab_px, Ab_py, Ab_pz, Ab_kn, Ab_kl, Ab_km]; exact r2.wk d x hx
      exact ih n (k + 1) b2 _ (by omega) (by omega) (by omega) rw3
theorem c_search (H : HW kn c sz S fl left0) : ∀ (r N rest : Nat) (left : Nat → Nat) (pre : Way) (cost : Nat) (b : Bst) (lw : MS), r < N → (∀ j, j < kn → left j ≠ 0 → left0 j ≠ 0) → (∀ j, j < kn → left j ≤ 20) → 0 < rest → rest < 2 ^ r → rest < 2 ^ c → pre.length + r ≤ 8 → cost ≤ 480001 * pre.length → b.1 ≤ 268435456 → RW kn sz S fl c left pre b lw →
    ∃ l2, f_Lw_search N lw (jI pre.length) (jI rest) (jI cost) = some ((), l2) ∧ RW kn sz S fl c left pre (srch kn sz S r rest left pre cost b) l2 := by
  intro r
  have hc8 : (2 : Nat) ^ c ≤ 2 ^ 8 := Nat.pow_le_pow_right (by omega) H.c8
  have hk3 := H.k3
  induction r with
  | zero => intro N rest left pre cost b lw _ _ _ h1 h2; omega
  | succ r ih =>
    intro N rest left pre cost b lw hN hll hlb hr0 hrr hrc hpl hcost hb rw
    obtain ⟨N, rfl⟩ : ∃ x, N = x + 1 := ⟨N - 1, by omega⟩
    have hk0 : ∀ (left : Nat → Nat) (pre : Way) (cost : Nat) (b : Bst) (lw : MS), cost ≤ 4000000 → pre.length ≤ 8 → RW kn sz S fl c left pre b lw → ∃ l2, f_Lw_search N lw (jI pre.length) (jI 0) (jI cost) = some ((), l2) ∧ RW kn sz S fl c left pre (cost, pre) l2 := fun left pre cost b lw h1 h2 h3 => by
      obtain ⟨M, rfl⟩ : ∃ x, N = x + 1 := ⟨N - 1, by omega⟩
      obtain ⟨l2, e, r2⟩ := c_keep h3 h2 cost
      refine ⟨l2, ?_, r2⟩
      simp only [f_Lw_search, f_Lw_searchB]
      rw [if_pos (show jI 0 = 0 from rfl), e]; rfl
    obtain ⟨v, l2, e, r2⟩ := c_kinds H (f_Lw_search N) hr0 hrc hrr hpl (by omega) hll hlb hk0 (fun left rest pre cost b lw h1 h2 h3 h4 h5 h6 h7 h8 h9 => ih N rest left pre cost b lw (by omega) h1 h2 h3 h4 h5 h6 h7 h8 h9) hcost kn fu 0 b lw (by omega) (by unfold fu; omega) hb rw
    refine ⟨l2, ?_, ?_⟩
    · have e' : l_Lw_search_21 (f_Lw_search N) fu (jI pre.length) (jI rest) (jI cost) 0 lw = some (v, l2) := e
      simp only [f_Lw_search, f_Lw_searchB]
      rw [if_neg (by rw [show (0 : Int32) = jI 0 from rfl, jI_eq (by omega) (by omega) (by omega) (by omega)]; omega), if_pos (by simp (disch := omega) only [jI_lit, jL_lit, jI_n, jI_add, jI_sub, jI_mul, jI_neg, jL_add, jL_sub, jL_mul, jL_neg, jI_lt, jI_le, jI_eq, jL_lt, jL_le, jL_eq, jI_c, jI_64, jL_32, jI_div, jL_div, jx, bnd, if_true, if_false, if_pos, if_neg, Int.toNat_natCast, Int.reduceToNat, Int.add_zero, Int.zero_add, Int.reduceAdd, Int.reduceSub, Int.reduceMul, Int.reduceNeg, Int.reduceLT, Int.reduceLE, jI_rem, sI_1, sI_2, sA_1, sA_2, sA_3, sL_1, sL_2, sL_3, upd_a, updL_a, vaup_a, Nat.reduceEqDiff, Ab_sz, Ab_tx, Ab_ns, Ab_sn, Ab_sx, Ab_ru, Ab_nl, Ab_lsh, Ab_ld, Ab_lm, Ab_lg, Ab_pd, Ab_px, Ab_py, Ab_pz, Ab_kn, Ab_kl, Ab_km]; omega), e']
      rfl
    · simp only [srch]
      rw [List.range_eq_range']
      exact r2
end LW
