abbrev Rec : Type := Int × Int × Int × Int
def rect (X Y : Int) (s : Wst) : Rec := (min X (X + s.1), max X (X + s.1), min Y (Y + s.2.1), max Y (Y + s.2.1))
def rcs (X Y : Int) (L : List Wst) : Nat → List Rec
  | 0 => []
  | k + 1 => rcs X Y L k ++ (match L[k]? with
    | some s => if s.2.2 then [rect (X + sumX (L.take k)) (Y + sumY (L.take k)) s] else []
    | none => [])
theorem mem_rcs (X Y : Int) (L : List Wst) (r : Rec) : ∀ k, r ∈ rcs X Y L k ↔ ∃ i s, i < k ∧ L[i]? = some s ∧ s.2.2 = true ∧ r = rect (X + sumX (L.take i)) (Y + sumY (L.take i)) s := by
  intro k
  induction k with
  | zero => simp [rcs]
  | succ k ih =>
    simp only [rcs, List.mem_append, ih]
    constructor
    · rintro (⟨i, s, h1, h2⟩ | h)
      · exact ⟨i, s, by omega, h2⟩
      · split at h
        · rename_i s hs
          split at h
          · rename_i hb
            simp at h
            exact ⟨k, s, by omega, hs, hb, h⟩
          · simp at h
        · simp at h
    · rintro ⟨i, s, h1, h2, h3, h4⟩
      by_cases c : i < k
      · exact Or.inl ⟨i, s, c, h2, h3, h4⟩
      · have : i = k := by omega
        subst this
        right
        rw [h2]
        simp [h3, h4]
theorem rcs_len (X Y : Int) (L : List Wst) : ∀ k, k ≤ L.length → (rcs X Y L k).length = ((L.take k).filter (·.2.2)).length := by
  intro k
  induction k with
  | zero => simp [rcs]
  | succ k ih =>
    intro hk
    have hk' : k < L.length := by omega
    simp only [rcs, List.length_append, ih (by omega)]
    rw [List.take_add_one, List.filter_append, List.length_append, List.getElem?_eq_getElem hk']
    simp only [Option.toList_some]
    cases hb : (L[k]).2.2 <;> simp [hb]
theorem stps_cnt (x : Nat → Nat) (d : Nat) (g : Nat → Nat) : ∀ k, ((stps x d g k).filter (·.2.2)).length = k := by
  intro k
  induction k with
  | zero => simp [stps]
  | succ k ih =>
    simp only [stps, List.filter_append, List.length_append, ih]
    have : (ustep x d k).filter (·.2.2) = [] := by
      unfold ustep; (repeat' split) <;> simp
    rw [this]
    simp
theorem cnt_lt (L : List Wst) {k : Nat} {s : Wst} (h : L[k]? = some s) (hs : s.2.2 = true) : ((L.take k).filter (·.2.2)).length < (L.filter (·.2.2)).length := by
  have hk := (List.getElem?_eq_some_iff.mp h).1
  have e : L = L.take k ++ L.drop k := (List.take_append_drop k L).symm
  have e2 : L.drop k = s :: L.drop (k + 1) := by
    rw [List.drop_eq_getElem_cons hk]
    rw [List.getElem?_eq_getElem hk] at h
    rw [Option.some.inj h]
  have : (L.filter (·.2.2)).length = ((L.take k).filter (·.2.2)).length + ((L.drop k).filter (·.2.2)).length := by
    rw [← List.length_append, ← List.filter_append, List.take_append_drop]
  rw [this, e2]
  simp [hs]
def gp (l h u v : Int) : Int := max 0 (max (u - h) (l - v))
theorem c_gap {x s y t : Int} (hx : -1000000 ≤ x ∧ x ≤ 1000000) (hs : -20000 ≤ s ∧ s ≤ 20000) (hy : -1000000 ≤ y ∧ y ≤ 1000000) (ht : -20000 ≤ t ∧ t ≤ 20000) :
    f_Tr_gap (jI x) (jI s) (jI y) (jI t) = some (jI (gp (min x (x + s)) (max x (x + s)) (min y (y + t)) (max y (y + t)))) := by
  have mn : ∀ a b : Int, -2000000 ≤ a → a ≤ 2000000 → -2000000 ≤ b → b ≤ 2000000 → (if jI b < jI a then jI b else jI a) = jI (min a b) := fun a b h1 h2 h3 h4 => by
    by_cases c : b < a
    · rw [Int.min_eq_right (by omega)]; simp (disch := omega) only [jI_lit, jL_lit, jI_n, jI_add, jI_sub, jI_mul, jI_neg, jL_add, jL_sub, jL_mul, jL_neg, jI_lt, jI_le, jI_eq, jL_lt, jL_le, jL_eq, jI_c, jI_64, jL_32, jI_div, jL_div, jx, bnd, if_true, if_false, if_pos, if_neg, Int.toNat_natCast, Int.reduceToNat, Int.add_zero, Int.zero_add, Int.reduceAdd, Int.reduceSub, Int.reduceMul, Int.reduceNeg, Int.reduceLT, Int.reduceLE, jI_rem, sI_1, sI_2, sA_1, sA_2, sA_3, sL_1, sL_2, sL_3, upd_a, updL_a, vaup_a, Nat.reduceEqDiff, Ab_sz, Ab_tx, Ab_ns, Ab_sn, Ab_sx, Ab_ru, Ab_nl, Ab_lsh, Ab_ld, Ab_lm, Ab_lg, Ab_pd, Ab_px, Ab_py, Ab_pz, Ab_kn, Ab_kl, Ab_km]
    · rw [Int.min_eq_left (by omega)]; simp (disch := omega) only [jI_lit, jL_lit, jI_n, jI_add, jI_sub, jI_mul, jI_neg, jL_add, jL_sub, jL_mul, jL_neg, jI_lt, jI_le, jI_eq, jL_lt, jL_le, jL_eq, jI_c, jI_64, jL_32, jI_div, jL_div, jx, bnd, if_true, if_false, if_pos, if_neg, Int.toNat_natCast, Int.reduceToNat, Int.add_zero, Int.zero_add, Int.reduceAdd, Int.reduceSub, Int.reduceMul, Int.reduceNeg, Int.reduceLT, Int.reduceLE, jI_rem, sI_1, sI_2, sA_1, sA_2, sA_3, sL_1, sL_2, sL_3, upd_a, updL_a, vaup_a, Nat.reduceEqDiff, Ab_sz, Ab_tx, Ab_ns, Ab_sn, Ab_sx, Ab_ru, Ab_nl, Ab_lsh, Ab_ld, Ab_lm, Ab_lg, Ab_pd, Ab_px, Ab_py, Ab_pz, Ab_kn, Ab_kl, Ab_km]
  have mx : ∀ a b : Int, -10000000 ≤ a → a ≤ 10000000 → -10000000 ≤ b → b ≤ 10000000 → (if jI a < jI b then jI b else jI a) = jI (max a b) := fun a b h1 h2 h3 h4 => by
    by_cases c : a < b
    · rw [Int.max_eq_right (by omega)]; simp (disch := omega) only [jI_lit, jL_lit, jI_n, jI_add, jI_sub, jI_mul, jI_neg, jL_add, jL_sub, jL_mul, jL_neg, jI_lt, jI_le, jI_eq, jL_lt, jL_le, jL_eq, jI_c, jI_64, jL_32, jI_div, jL_div, jx, bnd, if_true, if_false, if_pos, if_neg, Int.toNat_natCast, Int.reduceToNat, Int.add_zero, Int.zero_add, Int.reduceAdd, Int.reduceSub, Int.reduceMul, Int.reduceNeg, Int.reduceLT, Int.reduceLE, jI_rem, sI_1, sI_2, sA_1, sA_2, sA_3, sL_1, sL_2, sL_3, upd_a, updL_a, vaup_a, Nat.reduceEqDiff, Ab_sz, Ab_tx, Ab_ns, Ab_sn, Ab_sx, Ab_ru, Ab_nl, Ab_lsh, Ab_ld, Ab_lm, Ab_lg, Ab_pd, Ab_px, Ab_py, Ab_pz, Ab_kn, Ab_kl, Ab_km]
    · rw [Int.max_eq_left (by omega)]; simp (disch := omega) only [jI_lit, jL_lit, jI_n, jI_add, jI_sub, jI_mul, jI_neg, jL_add, jL_sub, jL_mul, jL_neg, jI_lt, jI_le, jI_eq, jL_lt, jL_le, jL_eq, jI_c, jI_64, jL_32, jI_div, jL_div, jx, bnd, if_true, if_false, if_pos, if_neg, Int.toNat_natCast, Int.reduceToNat, Int.add_zero, Int.zero_add, Int.reduceAdd, Int.reduceSub, Int.reduceMul, Int.reduceNeg, Int.reduceLT, Int.reduceLE, jI_rem, sI_1, sI_2, sA_1, sA_2, sA_3, sL_1, sL_2, sL_3, upd_a, updL_a, vaup_a, Nat.reduceEqDiff, Ab_sz, Ab_tx, Ab_ns, Ab_sn, Ab_sx, Ab_ru, Ab_nl, Ab_lsh, Ab_ld, Ab_lm, Ab_lg, Ab_pd, Ab_px, Ab_py, Ab_pz, Ab_kn, Ab_kl, Ab_km]
  have b1 : -2000000 ≤ min y (y + t) ∧ min y (y + t) ≤ 2000000 := by omega
  have b2 : -2000000 ≤ max x (x + s) ∧ max x (x + s) ≤ 2000000 := by omega
  have b3 : -2000000 ≤ min x (x + s) ∧ min x (x + s) ≤ 2000000 := by omega
  have b4 : -2000000 ≤ max y (y + t) ∧ max y (y + t) ≤ 2000000 := by omega
  unfold f_Tr_gap gp
  simp only [jI_add, bnd]
  rw [mn y (y + t) (by omega) (by omega) (by omega) (by omega), mn x (x + s) (by omega) (by omega) (by omega) (by omega), mx x (x + s) (by omega) (by omega) (by omega) (by omega), mx y (y + t) (by omega) (by omega) (by omega) (by omega)]
  simp only [jI_sub]
  rw [mx _ _ (by omega) (by omega) (by omega) (by omega), show (0 : Int32) = jI 0 from rfl, mx _ _ (by omega) (by omega) (by omega) (by omega)]
theorem m_gap {l h u v : Int} (hl : l ≤ h) (hu : u ≤ v) (b1 : -2000000 ≤ l) (b2 : h ≤ 2000000) (b3 : -2000000 ≤ u) (b4 : v ≤ 2000000) : f_Md_gap (jL l) (jL h) (jL u) (jL v) = some (jL (gp l h u v)) := by
  unfold f_Md_gap gp
  by_cases c1 : u ≤ h
  · by_cases c2 : l ≤ v
    · simp (disch := omega) only [jI_lit, jL_lit, jI_n, jI_add, jI_sub, jI_mul, jI_neg, jL_add, jL_sub, jL_mul, jL_neg, jI_lt, jI_le, jI_eq, jL_lt, jL_le, jL_eq, jI_c, jI_64, jL_32, jI_div, jL_div, jx, bnd, if_true, if_false, if_pos, if_neg, Int.toNat_natCast, Int.reduceToNat, Int.add_zero, Int.zero_add, Int.reduceAdd, Int.reduceSub, Int.reduceMul, Int.reduceNeg, Int.reduceLT, Int.reduceLE, jI_rem, sI_1, sI_2, sA_1, sA_2, sA_3, sL_1, sL_2, sL_3, upd_a, updL_a, vaup_a, Nat.reduceEqDiff, Ab_sz, Ab_tx, Ab_ns, Ab_sn, Ab_sx, Ab_ru, Ab_nl, Ab_lsh, Ab_ld, Ab_lm, Ab_lg, Ab_pd, Ab_px, Ab_py, Ab_pz, Ab_kn, Ab_kl, Ab_km]; congr 2; omega
    · simp (disch := omega) only [jI_lit, jL_lit, jI_n, jI_add, jI_sub, jI_mul, jI_neg, jL_add, jL_sub, jL_mul, jL_neg, jI_lt, jI_le, jI_eq, jL_lt, jL_le, jL_eq, jI_c, jI_64, jL_32, jI_div, jL_div, jx, bnd, if_true, if_false, if_pos, if_neg, Int.toNat_natCast, Int.reduceToNat, Int.add_zero, Int.zero_add, Int.reduceAdd, Int.reduceSub, Int.reduceMul, Int.reduceNeg, Int.reduceLT, Int.reduceLE, jI_rem, sI_1, sI_2, sA_1, sA_2, sA_3, sL_1, sL_2, sL_3, upd_a, updL_a, vaup_a, Nat.reduceEqDiff, Ab_sz, Ab_tx, Ab_ns, Ab_sn, Ab_sx, Ab_ru, Ab_nl, Ab_lsh, Ab_ld, Ab_lm, Ab_lg, Ab_pd, Ab_px, Ab_py, Ab_pz, Ab_kn, Ab_kl, Ab_km]; congr 2; omega
  · simp (disch := omega) only [jI_lit, jL_lit, jI_n, jI_add, jI_sub, jI_mul, jI_neg, jL_add, jL_sub, jL_mul, jL_neg, jI_lt, jI_le, jI_eq, jL_lt, jL_le, jL_eq, jI_c, jI_64, jL_32, jI_div, jL_div, jx, bnd, if_true, if_false, if_pos, if_neg, Int.toNat_natCast, Int.reduceToNat, Int.add_zero, Int.zero_add, Int.reduceAdd, Int.reduceSub, Int.reduceMul, Int.reduceNeg, Int.reduceLT, Int.reduceLE, jI_rem, sI_1, sI_2, sA_1, sA_2, sA_3, sL_1, sL_2, sL_3, upd_a, updL_a, vaup_a, Nat.reduceEqDiff, Ab_sz, Ab_tx, Ab_ns, Ab_sn, Ab_sx, Ab_ru, Ab_nl, Ab_lsh, Ab_ld, Ab_lm, Ab_lg, Ab_pd, Ab_px, Ab_py, Ab_pz, Ab_kn, Ab_kl, Ab_km]; congr 2; omega
theorem gp_b {l h u v : Int} (hl : l ≤ h) (hu : u ≤ v) (b1 : -2000000 ≤ l) (b2 : h ≤ 2000000) (b3 : -2000000 ≤ u) (b4 : v ≤ 2000000) : 0 ≤ gp l h u v ∧ gp l h u v ≤ 4000000 := by
  unfold gp; omega
def dsq (r q : Rec) : Int := gp r.1 r.2.1 q.1 q.2.1 * gp r.1 r.2.1 q.1 q.2.1 + gp r.2.2.1 r.2.2.2 q.2.2.1 q.2.2.2 * gp r.2.2.1 r.2.2.2 q.2.2.1 q.2.2.2
def goodR (r : Rec) : Prop := r.1 ≤ r.2.1 ∧ r.2.2.1 ≤ r.2.2.2 ∧ -2000000 ≤ r.1 ∧ r.2.1 ≤ 2000000 ∧ -2000000 ≤ r.2.2.1 ∧ r.2.2.2 ≤ 2000000
theorem sq_b {g : Int} (h : 0 ≤ g ∧ g ≤ 4000000) : 0 ≤ g * g ∧ g * g ≤ 16000000000000 := ⟨Int.mul_nonneg h.1 h.1, by
  have := Int.mul_le_mul h.2 h.2 h.1 (by omega : (0 : Int) ≤ 4000000); omega⟩
theorem dsq_b {r q : Rec} (h1 : goodR r) (h2 : goodR q) : 0 ≤ dsq r q ∧ dsq r q ≤ 32000000000000 := by
  obtain ⟨a1, a2, a3, a4, a5, a6⟩ := h1
  obtain ⟨c1, c2, c3, c4, c5, c6⟩ := h2
  have g1 := sq_b (gp_b a1 c1 a3 a4 c3 c4)
  have g2 := sq_b (gp_b a2 c2 a5 a6 c5 c6)
  unfold dsq; omega
def goodL (X Y : Int) (L : List Wst) : Prop := L.length ≤ 11 ∧ (∀ s ∈ L, -20000 ≤ s.1 ∧ s.1 ≤ 20000 ∧ -20000 ≤ s.2.1 ∧ s.2.1 ≤ 20000) ∧ -100000 ≤ X ∧ X ≤ 100000 ∧ -100000 ≤ Y ∧ Y ≤ 100000
theorem goodL_at {X Y : Int} {L : List Wst} (h : goodL X Y L) {i : Nat} {s : Wst} (hs : L[i]? = some s) : (-1000000 ≤ X + sumX (L.take i) ∧ X + sumX (L.take i) ≤ 1000000) ∧ (-1000000 ≤ Y + sumY (L.take i) ∧ Y + sumY (L.take i) ≤ 1000000) ∧ (-20000 ≤ s.1 ∧ s.1 ≤ 20000) ∧ (-20000 ≤ s.2.1 ∧ s.2.1 ≤ 20000) := by
  obtain ⟨h1, h2, h3⟩ := h
  have h4 := h2 s (List.mem_of_getElem? hs)
  have h5 := sumX_b (L.take i) (fun t ht => h2 t (List.mem_of_mem_take ht))
  have h6 : (L.take i).length ≤ 11 := by rw [List.length_take]; omega
  omega
theorem good_rect {X Y : Int} {L : List Wst} (h : goodL X Y L) {i : Nat} {s : Wst} (hs : L[i]? = some s) : goodR (rect (X + sumX (L.take i)) (Y + sumY (L.take i)) s) := by
  have := goodL_at h hs
  unfold goodR rect
  simp only
  omega
def seen (X Y : Int) (L : List Wst) (U V : Int) (M : List Wst) (p q : Nat) (B : Int) : Prop := ∃ i s j t, (i < p ∨ i = p ∧ j < q) ∧ L[i]? = some s ∧ M[j]? = some t ∧ s.2.2 = true ∧ t.2.2 = true ∧ 4 * dsq (rect (X + sumX (L.take i)) (Y + sumY (L.take i)) s) (rect (U + sumX (M.take j)) (V + sumY (M.take j)) t) < B
theorem c_lsqJ {X Y U V : Int} {L M : List Wst} {tr tu : MS} (h1 : RT X Y L tr) (h2 : RT U V M tu) (g1 : goodL X Y L) (g2 : goodL U V M) {p : Nat} (hp : p < L.length) : ∀ (n q : Nat) (m : Int), q ≤ M.length → M.length - q < n → 0 ≤ m → m ≤ 1152921504606846976 → (∀ B, 4 * m < B ↔ 4 * 1152921504606846976 < B ∨ seen X Y L U V M p q B) →
    ∃ m2, l_Tr_leastSquareTo_19 n (jL m) (jI p) (jI q) tr tu = some (jL m2, jI M.length) ∧ 0 ≤ m2 ∧ m2 ≤ 1152921504606846976 ∧ (∀ B, 4 * m2 < B ↔ 4 * 1152921504606846976 < B ∨ seen X Y L U V M p M.length B) := by
  intro n
  have hL := g1.1
  have hM := g2.1
  induction n with
  | zero => intro q m _ h; omega
  | succ n ih =>
    intro q m hq hf hm0 hm1 hB
    rw [l_Tr_leastSquareTo_19, h2.n]
    by_cases c : q = M.length
    · subst c
      exact ⟨m, by simp (disch := omega) only [jI_lit, jL_lit, jI_n, jI_add, jI_sub, jI_mul, jI_neg, jL_add, jL_sub, jL_mul, jL_neg, jI_lt, jI_le, jI_eq, jL_lt, jL_le, jL_eq, jI_c, jI_64, jL_32, jI_div, jL_div, jx, bnd, if_true, if_false, if_pos, if_neg, Int.toNat_natCast, Int.reduceToNat, Int.add_zero, Int.zero_add, Int.reduceAdd, Int.reduceSub, Int.reduceMul, Int.reduceNeg, Int.reduceLT, Int.reduceLE, jI_rem, sI_1, sI_2, sA_1, sA_2, sA_3, sL_1, sL_2, sL_3, upd_a, updL_a, vaup_a, Nat.reduceEqDiff, Ab_sz, Ab_tx, Ab_ns, Ab_sn, Ab_sx, Ab_ru, Ab_nl, Ab_lsh, Ab_ld, Ab_lm, Ab_lg, Ab_pd, Ab_px, Ab_py, Ab_pz, Ab_kn, Ab_kl, Ab_km], hm0, hm1, hB⟩
    · have e1 := List.getElem?_eq_getElem hp
      have hq' : q < M.length := by omega
      have e2 := List.getElem?_eq_getElem hq'
      have t1 := h1.t p _ e1
      have t2 := h2.t q _ e2
      have step : ∀ B, seen X Y L U V M p (q + 1) B ↔ seen X Y L U V M p q B ∨ ((L[p]).2.2 = true ∧ (M[q]).2.2 = true ∧ 4 * dsq (rect (X + sumX (L.take p)) (Y + sumY (L.take p)) L[p]) (rect (U + sumX (M.take q)) (V + sumY (M.take q)) M[q]) < B) := by
        intro B
        constructor
        · rintro ⟨i, s, j, t, hij, hs, ht, b1, b2, hd⟩
          by_cases ce : i = p ∧ j = q
          · obtain ⟨rfl, rfl⟩ := ce
            rw [e1] at hs; rw [e2] at ht
            obtain rfl := Option.some.inj hs
            obtain rfl := Option.some.inj ht
            exact Or.inr ⟨b1, b2, hd⟩
          · exact Or.inl ⟨i, s, j, t, by omega, hs, ht, b1, b2, hd⟩
        · rintro (⟨i, s, j, t, hij, h⟩ | ⟨b1, b2, hd⟩)
          · exact ⟨i, s, j, t, by omega, h⟩
          · exact ⟨p, _, q, _, Or.inr ⟨rfl, by omega⟩, e1, e2, b1, b2, hd⟩
      simp (disch := omega) only [jI_lit, jL_lit, jI_n, jI_add, jI_sub, jI_mul, jI_neg, jL_add, jL_sub, jL_mul, jL_neg, jI_lt, jI_le, jI_eq, jL_lt, jL_le, jL_eq, jI_c, jI_64, jL_32, jI_div, jL_div, jx, bnd, if_true, if_false, if_pos, if_neg, Int.toNat_natCast, Int.reduceToNat, Int.add_zero, Int.zero_add, Int.reduceAdd, Int.reduceSub, Int.reduceMul, Int.reduceNeg, Int.reduceLT, Int.reduceLE, jI_rem, sI_1, sI_2, sA_1, sA_2, sA_3, sL_1, sL_2, sL_3, upd_a, updL_a, vaup_a, Nat.reduceEqDiff, Ab_sz, Ab_tx, Ab_ns, Ab_sn, Ab_sx, Ab_ru, Ab_nl, Ab_lsh, Ab_ld, Ab_lm, Ab_lg, Ab_pd, Ab_px, Ab_py, Ab_pz, Ab_kn, Ab_kl, Ab_km, t1.2.2.2.2, t2.2.2.2.2]
      by_cases b1 : (L[p]).2.2 = true
      · by_cases b2 : (M[q]).2.2 = true
        · have k1 := goodL_at g1 e1
          have k2 := goodL_at g2 e2
          have gr1 := good_rect g1 e1
          have gr2 := good_rect g2 e2
          have db := dsq_b gr1 gr2
          have q1 := c_gap k1.1 k1.2.2.1 k2.1 k2.2.2.1
          have q2 := c_gap k1.2.1 k1.2.2.2 k2.2.1 k2.2.2.2
          obtain ⟨a1, a2, a3, a4, a5, a6⟩ := gr1
          obtain ⟨d1, d2, d3, d4, d5, d6⟩ := gr2
          have gx := gp_b a1 d1 a3 a4 d3 d4
          have gy := gp_b a2 d2 a5 a6 d5 d6
          have ih' := ih (q + 1)
          rw [b1, b2, t1.1, t1.2.2.1, t2.1, t2.2.2.1, t1.2.1, t1.2.2.2.1, t2.2.1, t2.2.2.2.1, q1, q2]
          simp (disch := omega) only [jI_lit, jL_lit, jI_n, jI_add, jI_sub, jI_mul, jI_neg, jL_add, jL_sub, jL_mul, jL_neg, jI_lt, jI_le, jI_eq, jL_lt, jL_le, jL_eq, jI_c, jI_64, jL_32, jI_div, jL_div, jx, bnd, if_true, if_false, if_pos, if_neg, Int.toNat_natCast, Int.reduceToNat, Int.add_zero, Int.zero_add, Int.reduceAdd, Int.reduceSub, Int.reduceMul, Int.reduceNeg, Int.reduceLT, Int.reduceLE, jI_rem, sI_1, sI_2, sA_1, sA_2, sA_3, sL_1, sL_2, sL_3, upd_a, updL_a, vaup_a, Nat.reduceEqDiff, Ab_sz, Ab_tx, Ab_ns, Ab_sn, Ab_sx, Ab_ru, Ab_nl, Ab_lsh, Ab_ld, Ab_lm, Ab_lg, Ab_pd, Ab_px, Ab_py, Ab_pz, Ab_kn, Ab_kl, Ab_km, show b01 true = 1 from rfl]
          have ed : dsq (rect (X + sumX (L.take p)) (Y + sumY (L.take p)) L[p]) (rect (U + sumX (M.take q)) (V + sumY (M.take q)) M[q]) = dsq (rect (X + sumX (L.take p)) (Y + sumY (L.take p)) L[p]) (rect (U + sumX (M.take q)) (V + sumY (M.take q)) M[q]) := rfl
          conv at ed => lhs; unfold dsq
          simp only [rect] at gx gy ed
          rw [jI_64 (by omega) (by omega), jI_64 (by omega) (by omega)]
          simp only [jL_mul, jL_add, ed]
          simp only [rect] at db
          generalize hD : dsq (min (X + sumX (L.take p)) (X + sumX (L.take p) + (L[p]).1), max (X + sumX (L.take p)) (X + sumX (L.take p) + (L[p]).1), min (Y + sumY (L.take p)) (Y + sumY (L.take p) + (L[p]).2.1), max (Y + sumY (L.take p)) (Y + sumY (L.take p) + (L[p]).2.1)) (min (U + sumX (M.take q)) (U + sumX (M.take q) + (M[q]).1), max (U + sumX (M.take q)) (U + sumX (M.take q) + (M[q]).1), min (V + sumY (M.take q)) (V + sumY (M.take q) + (M[q]).2.1), max (V + sumY (M.take q)) (V + sumY (M.take q) + (M[q]).2.1)) = D at *
          have st2 : ∀ B, seen X Y L U V M p (q + 1) B ↔ seen X Y L U V M p q B ∨ 4 * D < B := fun B => by
            rw [step B, ← hD]
            constructor
            · rintro (h | ⟨-, -, h⟩)
              · exact Or.inl h
              · exact Or.inr h
            · rintro (h | h)
              · exact Or.inl h
              · exact Or.inr ⟨b1, b2, h⟩
          by_cases cD : D < m
          · obtain ⟨m2, e3, r3⟩ := ih (q + 1) D (by omega) (by omega) (by omega) (by omega) (fun B => by
              rw [st2 B]
              have := hB B
              constructor
              · intro h; exact Or.inr (Or.inr h)
              · rintro (h | h | h)
                · have := (hB B).mpr (Or.inl h); omega
                · have := (hB B).mpr (Or.inr h); omega
                · exact h)
            exact ⟨m2, by simp (disch := omega) only [jI_lit, jL_lit, jI_n, jI_add, jI_sub, jI_mul, jI_neg, jL_add, jL_sub, jL_mul, jL_neg, jI_lt, jI_le, jI_eq, jL_lt, jL_le, jL_eq, jI_c, jI_64, jL_32, jI_div, jL_div, jx, bnd, if_true, if_false, if_pos, if_neg, Int.toNat_natCast, Int.reduceToNat, Int.add_zero, Int.zero_add, Int.reduceAdd, Int.reduceSub, Int.reduceMul, Int.reduceNeg, Int.reduceLT, Int.reduceLE, jI_rem, sI_1, sI_2, sA_1, sA_2, sA_3, sL_1, sL_2, sL_3, upd_a, updL_a, vaup_a, Nat.reduceEqDiff, Ab_sz, Ab_tx, Ab_ns, Ab_sn, Ab_sx, Ab_ru, Ab_nl, Ab_lsh, Ab_ld, Ab_lm, Ab_lg, Ab_pd, Ab_px, Ab_py, Ab_pz, Ab_kn, Ab_kl, Ab_km]; exact e3, r3⟩
          · obtain ⟨m2, e3, r3⟩ := ih (q + 1) m (by omega) (by omega) (by omega) (by omega) (fun B => by
              rw [st2 B, hB B]
              constructor
              · rintro (h | h)
                · exact Or.inl h
                · exact Or.inr (Or.inl h)
              · rintro (h | h | h)
                · exact Or.inl h
                · exact Or.inr h
                · exact (hB B).mp (by omega))
            exact ⟨m2, by simp (disch := omega) only [jI_lit, jL_lit, jI_n, jI_add, jI_sub, jI_mul, jI_neg, jL_add, jL_sub, jL_mul, jL_neg, jI_lt, jI_le, jI_eq, jL_lt, jL_le, jL_eq, jI_c, jI_64, jL_32, jI_div, jL_div, jx, bnd, if_true, if_false, if_pos, if_neg, Int.toNat_natCast, Int.reduceToNat, Int.add_zero, Int.zero_add, Int.reduceAdd, Int.reduceSub, Int.reduceMul, Int.reduceNeg, Int.reduceLT, Int.reduceLE, jI_rem, sI_1, sI_2, sA_1, sA_2, sA_3, sL_1, sL_2, sL_3, upd_a, updL_a, vaup_a, Nat.reduceEqDiff, Ab_sz, Ab_tx, Ab_ns, Ab_sn, Ab_sx, Ab_ru, Ab_nl, Ab_lsh, Ab_ld, Ab_lm, Ab_lg, Ab_pd, Ab_px, Ab_py, Ab_pz, Ab_kn, Ab_kl, Ab_km]; exact e3, r3⟩
        · have b2' : (M[q]).2.2 = false := by simpa using b2
          obtain ⟨m2, e3, r3⟩ := ih (q + 1) m (by omega) (by omega) (by omega) (by omega) (fun B => by
            rw [step B, hB B]
            constructor
            · rintro (h | h)
              · exact Or.inl h
              · exact Or.inr (Or.inl h)
            · rintro (h | h | ⟨-, h, -⟩)
              · exact Or.inl h
              · exact Or.inr h
              · exact absurd h b2)
          rw [b1, b2']
          exact ⟨m2, by simp (disch := omega) only [jI_lit, jL_lit, jI_n, jI_add, jI_sub, jI_mul, jI_neg, jL_add, jL_sub, jL_mul, jL_neg, jI_lt, jI_le, jI_eq, jL_lt, jL_le, jL_eq, jI_c, jI_64, jL_32, jI_div, jL_div, jx, bnd, if_true, if_false, if_pos, if_neg, Int.toNat_natCast, Int.reduceToNat, Int.add_zero, Int.zero_add, Int.reduceAdd, Int.reduceSub, Int.reduceMul, Int.reduceNeg, Int.reduceLT, Int.reduceLE, jI_rem, sI_1, sI_2, sA_1, sA_2, sA_3, sL_1, sL_2, sL_3, upd_a, updL_a, vaup_a, Nat.reduceEqDiff, Ab_sz, Ab_tx, Ab_ns, Ab_sn, Ab_sx, Ab_ru, Ab_nl, Ab_lsh, Ab_ld, Ab_lm, Ab_lg, Ab_pd, Ab_px, Ab_py, Ab_pz, Ab_kn, Ab_kl, Ab_km, show b01 true = 1 from rfl, show b01 false = 0 from rfl]; exact e3, r3⟩
      · have b1' : (L[p]).2.2 = false := by simpa using b1
        obtain ⟨m2, e3, r3⟩ := ih (q + 1) m (by omega) (by omega) (by omega) (by omega) (fun B => by
          rw [step B, hB B]
          constructor
          · rintro (h | h)
            · exact Or.inl h
            · exact Or.inr (Or.inl h)
          · rintro (h | h | ⟨h, -⟩)
            · exact Or.inl h
            · exact Or.inr h
            · exact absurd h b1)
        rw [b1']
        exact ⟨m2, by simp (disch := omega) only [jI_lit, jL_lit, jI_n, jI_add, jI_sub, jI_mul, jI_neg, jL_add, jL_sub, jL_mul, jL_neg, jI_lt, jI_le, jI_eq, jL_lt, jL_le, jL_eq, jI_c, jI_64, jL_32, jI_div, jL_div, jx, bnd, if_true, if_false, if_pos, if_neg, Int.toNat_natCast, Int.reduceToNat, Int.add_zero, Int.zero_add, Int.reduceAdd, Int.reduceSub, Int.reduceMul, Int.reduceNeg, Int.reduceLT, Int.reduceLE, jI_rem, sI_1, sI_2, sA_1, sA_2, sA_3, sL_1, sL_2, sL_3, upd_a, updL_a, vaup_a, Nat.reduceEqDiff, Ab_sz, Ab_tx, Ab_ns, Ab_sn, Ab_sx, Ab_ru, Ab_nl, Ab_lsh, Ab_ld, Ab_lm, Ab_lg, Ab_pd, Ab_px, Ab_py, Ab_pz, Ab_kn, Ab_kl, Ab_km, show b01 true = 1 from rfl, show b01 false = 0 from rfl]; exact e3, r3⟩
theorem seen_next {X Y U V : Int} {L M : List Wst} {p : Nat} {B : Int} : seen X Y L U V M (p + 1) 0 B ↔ seen X Y L U V M p M.length B := by
  constructor
  · rintro ⟨i, s, j, t, hij, hs, ht, h⟩
    have := (List.getElem?_eq_some_iff.mp ht).1
    exact ⟨i, s, j, t, by omega, hs, ht, h⟩
  · rintro ⟨i, s, j, t, hij, hs, ht, h⟩
    exact ⟨i, s, j, t, by omega, hs, ht, h⟩
theorem c_lsqI {X Y U V : Int} {L M : List Wst} {tr tu : MS} (h1 : RT X Y L tr) (h2 : RT U V M tu) (g1 : goodL X Y L) (g2 : goodL U V M) : ∀ (n p : Nat) (m : Int), p ≤ L.length → L.length - p < n → 0 ≤ m → m ≤ 1152921504606846976 → (∀ B, 4 * m < B ↔ 4 * 1152921504606846976 < B ∨ seen X Y L U V M p 0 B) →
    ∃ m2, l_Tr_leastSquareTo_7 n (jL m) (jI p) tr tu = some (jL m2, jI L.length) ∧ 0 ≤ m2 ∧ m2 ≤ 1152921504606846976 ∧ (∀ B, 4 * m2 < B ↔ 4 * 1152921504606846976 < B ∨ seen X Y L U V M L.length 0 B) := by
  intro n
  have hL := g1.1
  have hM := g2.1
  induction n with
  | zero => intro q m _ h; omega
  | succ n ih =>
    intro p m hp hf hm0 hm1 hB
    rw [l_Tr_leastSquareTo_7, h1.n]
    by_cases c : p = L.length
    · subst c
      exact ⟨m, by simp (disch := omega) only [jI_lit, jL_lit, jI_n, jI_add, jI_sub, jI_mul, jI_neg, jL_add, jL_sub, jL_mul, jL_neg, jI_lt, jI_le, jI_eq, jL_lt, jL_le, jL_eq, jI_c, jI_64, jL_32, jI_div, jL_div, jx, bnd, if_true, if_false, if_pos, if_neg, Int.toNat_natCast, Int.reduceToNat, Int.add_zero, Int.zero_add, Int.reduceAdd, Int.reduceSub, Int.reduceMul, Int.reduceNeg, Int.reduceLT, Int.reduceLE, jI_rem, sI_1, sI_2, sA_1, sA_2, sA_3, sL_1, sL_2, sL_3, upd_a, updL_a, vaup_a, Nat.reduceEqDiff, Ab_sz, Ab_tx, Ab_ns, Ab_sn, Ab_sx, Ab_ru, Ab_nl, Ab_lsh, Ab_ld, Ab_lm, Ab_lg, Ab_pd, Ab_px, Ab_py, Ab_pz, Ab_kn, Ab_kl, Ab_km], hm0, hm1, hB⟩
    · obtain ⟨m2, e1, r1, r2, r3⟩ := c_lsqJ h1 h2 g1 g2 (show p < L.length by omega) fu 0 m (by omega) (by unfold fu; omega) hm0 hm1 hB
      obtain ⟨m3, e2, r4⟩ := ih (p + 1) m2 (by omega) (by omega) r1 r2 (fun B => by rw [r3 B, seen_next])
      refine ⟨m3, ?_, r4⟩
      have e1' : l_Tr_leastSquareTo_19 fu (jL m) (jI p) 0 tr tu = some (jL m2, jI M.length) := e1
      rw [e1']
      simp (disch := omega) only [jI_lit, jL_lit, jI_n, jI_add, jI_sub, jI_mul, jI_neg, jL_add, jL_sub, jL_mul, jL_neg, jI_lt, jI_le, jI_eq, jL_lt, jL_le, jL_eq, jI_c, jI_64, jL_32, jI_div, jL_div, jx, bnd, if_true, if_false, if_pos, if_neg, Int.toNat_natCast, Int.reduceToNat, Int.add_zero, Int.zero_add, Int.reduceAdd, Int.reduceSub, Int.reduceMul, Int.reduceNeg, Int.reduceLT, Int.reduceLE, jI_rem, sI_1, sI_2, sA_1, sA_2, sA_3, sL_1, sL_2, sL_3, upd_a, updL_a, vaup_a, Nat.reduceEqDiff, Ab_sz, Ab_tx, Ab_ns, Ab_sn, Ab_sx, Ab_ru, Ab_nl, Ab_lsh, Ab_ld, Ab_lm, Ab_lg, Ab_pd, Ab_px, Ab_py, Ab_pz, Ab_kn, Ab_kl, Ab_km]; exact e2
theorem c_lsq {X Y U V : Int} {L M : List Wst} {tr tu : MS} (h1 : RT X Y L tr) (h2 : RT U V M tu) (g1 : goodL X Y L) (g2 : goodL U V M) : ∃ m2, f_Tr_leastSquareTo tr tu = some (jL m2) ∧ 0 ≤ m2 ∧ m2 ≤ 1152921504606846976 ∧ (∀ B, 4 * m2 < B ↔ 4 * 1152921504606846976 < B ∨ seen X Y L U V M L.length 0 B) := by
  obtain ⟨m2, e, r⟩ := c_lsqI h1 h2 g1 g2 fu 0 1152921504606846976 (by omega) (by have := g1.1; unfold fu; omega) (by omega) (by omega) (fun B => by
    constructor
    · intro h; exact Or.inl h
    · rintro (h | ⟨i, s, j, t, hij, _⟩)
      · exact h
      · omega)
  refine ⟨m2, ?_, r⟩
  have e' : l_Tr_leastSquareTo_7 fu 1152921504606846976 0 tr tu = some (jL m2, jI L.length) := e
  unfold f_Tr_leastSquareTo
  rw [e']; rfl
def SK (m1 : MS) (f : Nat) (R : List Rec) (md : MS) : Prop := (md.1 8 = m1.1 8) ∧ (md.2.2 9 = m1.2.2 9) ∧ (md.2.2 10 = m1.2.2 10) ∧ (md.2.1 19 = m1.2.1 19) ∧ (Keep m1 md) ∧ (∀ n r, R[n]? = some r → md.2.2 11 (f + n) = jL r.1 ∧ md.2.2 12 (f + n) = jL r.2.1 ∧ md.2.2 13 (f + n) = jL r.2.2.1 ∧ md.2.2 14 (f + n) = jL r.2.2.2) ∧ (∀ j, j < f → md.2.2 11 j = m1.2.2 11 j ∧ md.2.2 12 j = m1.2.2 12 j ∧ md.2.2 13 j = m1.2.2 13 j ∧ md.2.2 14 j = m1.2.2 14 j)
theorem SK.n {m1 : MS} {f : Nat} {R : List Rec} {md : MS} (h9 : SK m1 f R md) : md.1 8 = m1.1 8 := h9.1
theorem SK.x {m1 : MS} {f : Nat} {R : List Rec} {md : MS} (h9 : SK m1 f R md) : md.2.2 9 = m1.2.2 9 := h9.2.1
theorem SK.y {m1 : MS} {f : Nat} {R : List Rec} {md : MS} (h9 : SK m1 f R md) : md.2.2 10 = m1.2.2 10 := h9.2.2.1
theorem SK.g {m1 : MS} {f : Nat} {R : List Rec} {md : MS} (h9 : SK m1 f R md) : md.2.1 19 = m1.2.1 19 := h9.2.2.2.1
theorem SK.k {m1 : MS} {f : Nat} {R : List Rec} {md : MS} (h9 : SK m1 f R md) : Keep m1 md := h9.2.2.2.2.1
theorem SK.t {m1 : MS} {f : Nat} {R : List Rec} {md : MS} (h9 : SK m1 f R md) : ∀ n r, R[n]? = some r → md.2.2 11 (f + n) = jL r.1 ∧ md.2.2 12 (f + n) = jL r.2.1 ∧ md.2.2 13 (f + n) = jL r.2.2.1 ∧ md.2.2 14 (f + n) = jL r.2.2.2 := h9.2.2.2.2.2.1
theorem SK.o {m1 : MS} {f : Nat} {R : List Rec} {md : MS} (h9 : SK m1 f R md) : ∀ j, j < f → md.2.2 11 j = m1.2.2 11 j ∧ md.2.2 12 j = m1.2.2 12 j ∧ md.2.2 13 j = m1.2.2 13 j ∧ md.2.2 14 j = m1.2.2 14 j := h9.2.2.2.2.2.2
theorem SK.mk {m1 : MS} {f : Nat} {R : List Rec} {md : MS} (u_n : md.1 8 = m1.1 8) (u_x : md.2.2 9 = m1.2.2 9) (u_y : md.2.2 10 = m1.2.2 10) (u_g : md.2.1 19 = m1.2.1 19) (u_k : Keep m1 md) (u_t : ∀ n r, R[n]? = some r → md.2.2 11 (f + n) = jL r.1 ∧ md.2.2 12 (f + n) = jL r.2.1 ∧ md.2.2 13 (f + n) = jL r.2.2.1 ∧ md.2.2 14 (f + n) = jL r.2.2.2) (u_o : ∀ j, j < f → md.2.2 11 j = m1.2.2 11 j ∧ md.2.2 12 j = m1.2.2 12 j ∧ md.2.2 13 j = m1.2.2 13 j ∧ md.2.2 14 j = m1.2.2 14 j) : SK m1 f R md := ⟨u_n, u_x, u_y, u_g, u_k, u_t, u_o⟩
theorem SK.put {m1 md : MS} {f : Nat} {R : List Rec} (h : SK m1 f R md) (r : Rec) : SK m1 f (R ++ [r]) (sL (sL (sL (sL md 11 (vp_updL (md.2.2 11) (f + R.length) (jL r.1))) 12 (vp_updL (md.2.2 12) (f + R.length) (jL r.2.1))) 13 (vp_updL (md.2.2 13) (f + R.length) (jL r.2.2.1))) 14 (vp_updL (md.2.2 14) (f + R.length) (jL r.2.2.2))) := by
  refine ⟨?_, ?_, ?_, ?_, ?_, ?_, ?_⟩
  · exact h.n
  · simp (disch := omega) only [jI_lit, jL_lit, jI_n, jI_add, jI_sub, jI_mul, jI_neg, jL_add, jL_sub, jL_mul, jL_neg, jI_lt, jI_le, jI_eq, jL_lt, jL_le, jL_eq, jI_c, jI_64, jL_32, jI_div, jL_div, jx, bnd, if_true, if_false, if_pos, if_neg, Int.toNat_natCast, Int.reduceToNat, Int.add_zero, Int.zero_add, Int.reduceAdd, Int.reduceSub, Int.reduceMul, Int.reduceNeg, Int.reduceLT, Int.reduceLE, jI_rem, sI_1, sI_2, sA_1, sA_2, sA_3, sL_1, sL_2, sL_3, upd_a, updL_a, vaup_a, Nat.reduceEqDiff, Ab_sz, Ab_tx, Ab_ns, Ab_sn, Ab_sx, Ab_ru, Ab_nl, Ab_lsh, Ab_ld, Ab_lm, Ab_lg, Ab_pd, Ab_px, Ab_py, Ab_pz, Ab_kn, Ab_kl, Ab_km]; exact h.x
  · simp (disch := omega) only [jI_lit, jL_lit, jI_n, jI_add, jI_sub, jI_mul, jI_neg, jL_add, jL_sub, jL_mul, jL_neg, jI_lt, jI_le, jI_eq, jL_lt, jL_le, jL_eq, jI_c, jI_64, jL_32, jI_div, jL_div, jx, bnd, if_true, if_false, if_pos, if_neg, Int.toNat_natCast, Int.reduceToNat, Int.add_zero, Int.zero_add, Int.reduceAdd, Int.reduceSub, Int.reduceMul, Int.reduceNeg, Int.reduceLT, Int.reduceLE, jI_rem, sI_1, sI_2, sA_1, sA_2, sA_3, sL_1, sL_2, sL_3, upd_a, updL_a, vaup_a, Nat.reduceEqDiff, Ab_sz, Ab_tx, Ab_ns, Ab_sn, Ab_sx, Ab_ru, Ab_nl, Ab_lsh, Ab_ld, Ab_lm, Ab_lg, Ab_pd, Ab_px, Ab_py, Ab_pz, Ab_kn, Ab_kl, Ab_km]; exact h.y
  · exact h.g
  · exact (((h.k.sL (by omega)).sL (by omega)).sL (by omega)).sL (by omega)
  · intro n q hq
    rcases get_app R r n q hq with ⟨c, e⟩ | ⟨c, e⟩
    · have := h.t n q e
      simp (disch := omega) only [jI_lit, jL_lit, jI_n, jI_add, jI_sub, jI_mul, jI_neg, jL_add, jL_sub, jL_mul, jL_neg, jI_lt, jI_le, jI_eq, jL_lt, jL_le, jL_eq, jI_c, jI_64, jL_32, jI_div, jL_div, jx, bnd, if_true, if_false, if_pos, if_neg, Int.toNat_natCast, Int.reduceToNat, Int.add_zero, Int.zero_add, Int.reduceAdd, Int.reduceSub, Int.reduceMul, Int.reduceNeg, Int.reduceLT, Int.reduceLE, jI_rem, sI_1, sI_2, sA_1, sA_2, sA_3, sL_1, sL_2, sL_3, upd_a, updL_a, vaup_a, Nat.reduceEqDiff, Ab_sz, Ab_tx, Ab_ns, Ab_sn, Ab_sx, Ab_ru, Ab_nl, Ab_lsh, Ab_ld, Ab_lm, Ab_lg, Ab_pd, Ab_px, Ab_py, Ab_pz, Ab_kn, Ab_kl, Ab_km]
      exact this
    · subst e; subst c
      simp (disch := omega) only [jI_lit, jL_lit, jI_n, jI_add, jI_sub, jI_mul, jI_neg, jL_add, jL_sub, jL_mul, jL_neg, jI_lt, jI_le, jI_eq, jL_lt, jL_le, jL_eq, jI_c, jI_64, jL_32, jI_div, jL_div, jx, bnd, if_true, if_false, if_pos, if_neg, Int.toNat_natCast, Int.reduceToNat, Int.add_zero, Int.zero_add, Int.reduceAdd, Int.reduceSub, Int.reduceMul, Int.reduceNeg, Int.reduceLT, Int.reduceLE, jI_rem, sI_1, sI_2, sA_1, sA_2, sA_3, sL_1, sL_2, sL_3, upd_a, updL_a, vaup_a, Nat.reduceEqDiff, Ab_sz, Ab_tx, Ab_ns, Ab_sn, Ab_sx, Ab_ru, Ab_nl, Ab_lsh, Ab_ld, Ab_lm, Ab_lg, Ab_pd, Ab_px, Ab_py, Ab_pz, Ab_kn, Ab_kl, Ab_km]
      simp
  · intro j hj
    have := h.o j hj
    simp (disch := omega) only [jI_lit, jL_lit, jI_n, jI_add, jI_sub, jI_mul, jI_neg, jL_add, jL_sub, jL_mul, jL_neg, jI_lt, jI_le, jI_eq, jL_lt, jL_le, jL_eq, jI_c, jI_64, jL_32, jI_div, jL_div, jx, bnd, if_true, if_false, if_pos, if_neg, Int.toNat_natCast, Int.reduceToNat, Int.add_zero, Int.zero_add, Int.reduceAdd, Int.reduceSub, Int.reduceMul, Int.reduceNeg, Int.reduceLT, Int.reduceLE, jI_rem, sI_1, sI_2, sA_1, sA_2, sA_3, sL_1, sL_2, sL_3, upd_a, updL_a, vaup_a, Nat.reduceEqDiff, Ab_sz, Ab_tx, Ab_ns, Ab_sn, Ab_sx, Ab_ru, Ab_nl, Ab_lsh, Ab_ld, Ab_lm, Ab_lg, Ab_pd, Ab_px, Ab_py, Ab_pz, Ab_kn, Ab_kl, Ab_km]
    exact this
theorem m_strL {m1 : MS} {md0 : MS} {X Y : Int} {L : List Wst} (rd : RD md0 L m1) (gl : goodL X Y L) {f : Nat} (hf : f ≤ 6) (hc : (L.filter (·.2.2)).length ≤ 6) (y1 : Int32) : ∀ (n k : Nat) (md : MS), k ≤ L.length → L.length - k < n → SK m1 f (rcs X Y L k) md →
    ∃ u v w m2, l_Md_stretches_26 n y1 (jI f) (jL (X + sumX (L.take k))) (jL (Y + sumY (L.take k))) (jI (rcs X Y L k).length) (jI k) md = some (u, v, jI (rcs X Y L L.length).length, w, m2) ∧ SK m1 f (rcs X Y L L.length) m2 := by
  intro n
  have hL := gl.1
  induction n with
  | zero => intro k md _ h; omega
  | succ n ih =>
    intro k md hk hn sk
    rw [l_Md_stretches_26, sk.n, rd.n]
    by_cases c : k = L.length
    · subst c
      exact ⟨_, _, _, md, by rw [if_pos (Int32.le_refl _)], sk⟩
    · have hk' : k < L.length := by omega
      have e1 := List.getElem?_eq_getElem hk'
      have t1 := rd.t k _ e1
      have k1 := goodL_at gl e1
      have hlen := rcs_len X Y L k hk
      have tk : L.take (k + 1) = L.take k ++ [L[k]] := by rw [List.take_add_one, e1]; rfl
      have sx := (sumX_a (L.take k) L[k]).1
      have sy := (sumX_a (L.take k) L[k]).2
      have ih' := ih (k + 1)
      rw [tk, sx, sy] at ih'
      have hr : rcs X Y L (k + 1) = rcs X Y L k ++ (if (L[k]).2.2 then [rect (X + sumX (L.take k)) (Y + sumY (L.take k)) L[k]] else []) := by
        simp only [rcs]; rw [e1]
      by_cases b : (L[k]).2.2 = true
      · have hcl := cnt_lt L e1 b
        rw [b, if_pos rfl] at hr
        have hp := sk.put (rect (X + sumX (L.take k)) (Y + sumY (L.take k)) L[k])
        rw [← hr] at hp
        obtain ⟨u, v, w, m2, e2, r2⟩ := ih' _ (by omega) (by omega) hp
        refine ⟨u, v, w, m2, ?_, r2⟩
        rw [hr, List.length_append, List.length_singleton] at e2
        rw [← e2]
        have lo : ∀ x u : Int, -2000000 ≤ x → x ≤ 2000000 → -2000000 ≤ u → u ≤ 2000000 → ((if jL u ≤ jL x then some (jL u) else some (jL x)) : Option Int64) = some (jL (min x u)) := fun x u h1 h2 h3 h4 => by
          by_cases c : u ≤ x
          · rw [Int.min_eq_right c]; simp (disch := omega) only [jI_lit, jL_lit, jI_n, jI_add, jI_sub, jI_mul, jI_neg, jL_add, jL_sub, jL_mul, jL_neg, jI_lt, jI_le, jI_eq, jL_lt, jL_le, jL_eq, jI_c, jI_64, jL_32, jI_div, jL_div, jx, bnd, if_true, if_false, if_pos, if_neg, Int.toNat_natCast, Int.reduceToNat, Int.add_zero, Int.zero_add, Int.reduceAdd, Int.reduceSub, Int.reduceMul, Int.reduceNeg, Int.reduceLT, Int.reduceLE, jI_rem, sI_1, sI_2, sA_1, sA_2, sA_3, sL_1, sL_2, sL_3, upd_a, updL_a, vaup_a, Nat.reduceEqDiff, Ab_sz, Ab_tx, Ab_ns, Ab_sn, Ab_sx, Ab_ru, Ab_nl, Ab_lsh, Ab_ld, Ab_lm, Ab_lg, Ab_pd, Ab_px, Ab_py, Ab_pz, Ab_kn, Ab_kl, Ab_km]
          · rw [Int.min_eq_left (by omega)]; simp (disch := omega) only [jI_lit, jL_lit, jI_n, jI_add, jI_sub, jI_mul, jI_neg, jL_add, jL_sub, jL_mul, jL_neg, jI_lt, jI_le, jI_eq, jL_lt, jL_le, jL_eq, jI_c, jI_64, jL_32, jI_div, jL_div, jx, bnd, if_true, if_false, if_pos, if_neg, Int.toNat_natCast, Int.reduceToNat, Int.add_zero, Int.zero_add, Int.reduceAdd, Int.reduceSub, Int.reduceMul, Int.reduceNeg, Int.reduceLT, Int.reduceLE, jI_rem, sI_1, sI_2, sA_1, sA_2, sA_3, sL_1, sL_2, sL_3, upd_a, updL_a, vaup_a, Nat.reduceEqDiff, Ab_sz, Ab_tx, Ab_ns, Ab_sn, Ab_sx, Ab_ru, Ab_nl, Ab_lsh, Ab_ld, Ab_lm, Ab_lg, Ab_pd, Ab_px, Ab_py, Ab_pz, Ab_kn, Ab_kl, Ab_km]
        have hg : ∀ x u : Int, -2000000 ≤ x → x ≤ 2000000 → -2000000 ≤ u → u ≤ 2000000 → ((if jL u ≤ jL x then some (jL x) else some (jL u)) : Option Int64) = some (jL (max x u)) := fun x u h1 h2 h3 h4 => by
          by_cases c : u ≤ x
          · rw [Int.max_eq_left c]; simp (disch := omega) only [jI_lit, jL_lit, jI_n, jI_add, jI_sub, jI_mul, jI_neg, jL_add, jL_sub, jL_mul, jL_neg, jI_lt, jI_le, jI_eq, jL_lt, jL_le, jL_eq, jI_c, jI_64, jL_32, jI_div, jL_div, jx, bnd, if_true, if_false, if_pos, if_neg, Int.toNat_natCast, Int.reduceToNat, Int.add_zero, Int.zero_add, Int.reduceAdd, Int.reduceSub, Int.reduceMul, Int.reduceNeg, Int.reduceLT, Int.reduceLE, jI_rem, sI_1, sI_2, sA_1, sA_2, sA_3, sL_1, sL_2, sL_3, upd_a, updL_a, vaup_a, Nat.reduceEqDiff, Ab_sz, Ab_tx, Ab_ns, Ab_sn, Ab_sx, Ab_ru, Ab_nl, Ab_lsh, Ab_ld, Ab_lm, Ab_lg, Ab_pd, Ab_px, Ab_py, Ab_pz, Ab_kn, Ab_kl, Ab_km]
          · rw [Int.max_eq_right (by omega)]; simp (disch := omega) only [jI_lit, jL_lit, jI_n, jI_add, jI_sub, jI_mul, jI_neg, jL_add, jL_sub, jL_mul, jL_neg, jI_lt, jI_le, jI_eq, jL_lt, jL_le, jL_eq, jI_c, jI_64, jL_32, jI_div, jL_div, jx, bnd, if_true, if_false, if_pos, if_neg, Int.toNat_natCast, Int.reduceToNat, Int.add_zero, Int.zero_add, Int.reduceAdd, Int.reduceSub, Int.reduceMul, Int.reduceNeg, Int.reduceLT, Int.reduceLE, jI_rem, sI_1, sI_2, sA_1, sA_2, sA_3, sL_1, sL_2, sL_3, upd_a, updL_a, vaup_a, Nat.reduceEqDiff, Ab_sz, Ab_tx, Ab_ns, Ab_sn, Ab_sx, Ab_ru, Ab_nl, Ab_lsh, Ab_ld, Ab_lm, Ab_lg, Ab_pd, Ab_px, Ab_py, Ab_pz, Ab_kn, Ab_kl, Ab_km]
        rw [show (jI k).toNatClampNeg = k from by rw [jI_c (by omega) (by omega)]; omega, sk.x, sk.y, sk.g, t1.1, t1.2.1, t1.2.2, b]
        rw [if_neg (by simp (disch := omega) only [jI_lit, jL_lit, jI_n, jI_add, jI_sub, jI_mul, jI_neg, jL_add, jL_sub, jL_mul, jL_neg, jI_lt, jI_le, jI_eq, jL_lt, jL_le, jL_eq, jI_c, jI_64, jL_32, jI_div, jL_div, jx, bnd, if_true, if_false, if_pos, if_neg, Int.toNat_natCast, Int.reduceToNat, Int.add_zero, Int.zero_add, Int.reduceAdd, Int.reduceSub, Int.reduceMul, Int.reduceNeg, Int.reduceLT, Int.reduceLE, jI_rem, sI_1, sI_2, sA_1, sA_2, sA_3, sL_1, sL_2, sL_3, upd_a, updL_a, vaup_a, Nat.reduceEqDiff, Ab_sz, Ab_tx, Ab_ns, Ab_sn, Ab_sx, Ab_ru, Ab_nl, Ab_lsh, Ab_ld, Ab_lm, Ab_lg, Ab_pd, Ab_px, Ab_py, Ab_pz, Ab_kn, Ab_kl, Ab_km]; omega), jx (by omega) (by omega) (by omega)]
        simp only [if_true, bnd, jL_add, jI_add]
        rw [if_neg (show ¬ jI (b01 true) = 0 by decide), jx (by omega) (by omega) (by omega), lo _ _ (by omega) (by omega) (by omega) (by omega), lo _ _ (by omega) (by omega) (by omega) (by omega), hg _ _ (by omega) (by omega) (by omega) (by omega)]
        simp only [if_true, bnd]
        rw [show (jI (f + (rcs X Y L k).length)).toNatClampNeg = f + (rcs X Y L k).length from by rw [jI_c (by omega) (by omega)]; omega]
        rw [← Int.add_assoc, ← Int.add_assoc]
        by_cases cy : Y + sumY (L.take k) + (L[k]).2.1 ≤ Y + sumY (L.take k)
        · rw [if_pos (by simp (disch := omega) only [jI_lit, jL_lit, jI_n, jI_add, jI_sub, jI_mul, jI_neg, jL_add, jL_sub, jL_mul, jL_neg, jI_lt, jI_le, jI_eq, jL_lt, jL_le, jL_eq, jI_c, jI_64, jL_32, jI_div, jL_div, jx, bnd, if_true, if_false, if_pos, if_neg, Int.toNat_natCast, Int.reduceToNat, Int.add_zero, Int.zero_add, Int.reduceAdd, Int.reduceSub, Int.reduceMul, Int.reduceNeg, Int.reduceLT, Int.reduceLE, jI_rem, sI_1, sI_2, sA_1, sA_2, sA_3, sL_1, sL_2, sL_3, upd_a, updL_a, vaup_a, Nat.reduceEqDiff, Ab_sz, Ab_tx, Ab_ns, Ab_sn, Ab_sx, Ab_ru, Ab_nl, Ab_lsh, Ab_ld, Ab_lm, Ab_lg, Ab_pd, Ab_px, Ab_py, Ab_pz, Ab_kn, Ab_kl, Ab_km]; omega)]
          simp only [rect]
          rw [Int.max_eq_left cy, bnd, show jI ((rcs X Y L k).length : Int) + 1 = jI (((rcs X Y L k).length + 1 : Nat) : Int) from jI_add _ 1, show jI (k : Int) + 1 = jI ((k + 1 : Nat) : Int) from jI_add _ 1]
          rfl
        · rw [if_neg (by simp (disch := omega) only [jI_lit, jL_lit, jI_n, jI_add, jI_sub, jI_mul, jI_neg, jL_add, jL_sub, jL_mul, jL_neg, jI_lt, jI_le, jI_eq, jL_lt, jL_le, jL_eq, jI_c, jI_64, jL_32, jI_div, jL_div, jx, bnd, if_true, if_false, if_pos, if_neg, Int.toNat_natCast, Int.reduceToNat, Int.add_zero, Int.zero_add, Int.reduceAdd, Int.reduceSub, Int.reduceMul, Int.reduceNeg, Int.reduceLT, Int.reduceLE, jI_rem, sI_1, sI_2, sA_1, sA_2, sA_3, sL_1, sL_2, sL_3, upd_a, updL_a, vaup_a, Nat.reduceEqDiff, Ab_sz, Ab_tx, Ab_ns, Ab_sn, Ab_sx, Ab_ru, Ab_nl, Ab_lsh, Ab_ld, Ab_lm, Ab_lg, Ab_pd, Ab_px, Ab_py, Ab_pz, Ab_kn, Ab_kl, Ab_km]; omega)]
          simp only [rect]
          rw [Int.max_eq_right (a := Y + sumY (L.take k)) (by omega), bnd, show jI ((rcs X Y L k).length : Int) + 1 = jI (((rcs X Y L k).length + 1 : Nat) : Int) from jI_add _ 1, show jI (k : Int) + 1 = jI ((k + 1 : Nat) : Int) from jI_add _ 1]
          rfl
      · have b' : (L[k]).2.2 = false := by simpa using b
        rw [b', if_neg (by decide), List.append_nil] at hr
        rw [hr] at ih'
        obtain ⟨u, v, w, m2, e2, r2⟩ := ih' md (by omega) (by omega) sk
        refine ⟨u, v, w, m2, ?_, r2⟩
        rw [← e2]
        simp (disch := omega) only [jI_lit, jL_lit, jI_n, jI_add, jI_sub, jI_mul, jI_neg, jL_add, jL_sub, jL_mul, jL_neg, jI_lt, jI_le, jI_eq, jL_lt, jL_le, jL_eq, jI_c, jI_64, jL_32, jI_div, jL_div, jx, bnd, if_true, if_false, if_pos, if_neg, Int.toNat_natCast, Int.reduceToNat, Int.add_zero, Int.zero_add, Int.reduceAdd, Int.reduceSub, Int.reduceMul, Int.reduceNeg, Int.reduceLT, Int.reduceLE, jI_rem, sI_1, sI_2, sA_1, sA_2, sA_3, sL_1, sL_2, sL_3, upd_a, updL_a, vaup_a, Nat.reduceEqDiff, Ab_sz, Ab_tx, Ab_ns, Ab_sn, Ab_sx, Ab_ru, Ab_nl, Ab_lsh, Ab_ld, Ab_lm, Ab_lg, Ab_pd, Ab_px, Ab_py, Ab_pz, Ab_kn, Ab_kl, Ab_km, sk.x, sk.y, sk.g, t1.1, t1.2.1, t1.2.2, b', show b01 false = 0 from rfl, Int.add_assoc]
        rfl
section Lines
variable {a : Ab} {nl : Nat} {nT : Nat → Nat} {LS TS : Nat → MS} {FP : Nat → Bool} {FS : Nat → MS} {bc sg tr tu ff pl lw md : MS}
abbrev lrc (a : Ab) (i : Nat) : List Rec := rcs (a.px i) (a.py i) (lst a i (lgs a i)) (lst a i (lgs a i)).length
theorem good_lst (ok : Ok a) {i : Nat} (hi : i < a.nl) : goodL (a.px i) (a.py i) (lst a i (lgs a i)) := by
  have hL : lgs a i = (a.sn (a.lsh i) + 1) / 2 := rfl
  have b2 := ok.sn _ (ok.lsh i hi)
  have h1 : (lst a i (lgs a i)).length ≤ 2 * lgs a i - 1 ∧ lgs a i ≤ (lst a i (lgs a i)).length := stps_len _ _ _ _
  have h2 := ok.px i hi
  have h3 := ok.py i hi
  exact ⟨by omega, stps_b _ _ _ (ok.ld i hi).2 (ok.lg i hi) _ (by omega), by omega, by omega, by omega, by omega⟩
theorem lrc_len (ok : Ok a) {i : Nat} (hi : i < a.nl) : (lrc a i).length ≤ 6 := by
  have hL : lgs a i = (a.sn (a.lsh i) + 1) / 2 := rfl
  have b2 := ok.sn _ (ok.lsh i hi)
  show (rcs _ _ _ _).length ≤ 6
  rw [rcs_len _ _ _ _ (Nat.le_refl _), List.take_length, stps_cnt]
  omega
theorem m_stretches (ok : Ok a) (rm : RM a md) {i : Nat} (hi : i < a.nl) {f : Nat} (hf : f ≤ 6) : ∃ m2, f_Md_stretches md (jI i) (jI f) = some (jI (lrc a i).length, m2) ∧ Keep md m2 ∧
    (∀ n r, (lrc a i)[n]? = some r → m2.2.2 11 (f + n) = jL r.1 ∧ m2.2.2 12 (f + n) = jL r.2.1 ∧ m2.2.2 13 (f + n) = jL r.2.2.1 ∧ m2.2.2 14 (f + n) = jL r.2.2.2) ∧
    (∀ j, j < f → m2.2.2 11 j = md.2.2 11 j ∧ m2.2.2 12 j = md.2.2 12 j ∧ m2.2.2 13 j = md.2.2 13 j ∧ m2.2.2 14 j = md.2.2 14 j) := by
  have hL : lgs a i = (a.sn (a.lsh i) + 1) / 2 := rfl
  have b2 := ok.sn _ (ok.lsh i hi)
  have hn := ok.nl
  obtain ⟨m1, e1, rd⟩ := m_draw ok rm hi
  have rm1 := rm.kept rd.k
  have gl := good_lst ok hi
  have s0 : SK m1 f (rcs (a.px i) (a.py i) (lst a i (lgs a i)) 0) m1 := ⟨rfl, rfl, rfl, rfl, Keep.rf m1, fun n r h => by simp [rcs] at h, fun _ _ => ⟨rfl, rfl, rfl, rfl⟩⟩
  obtain ⟨u, v, w, m2, e2, sk⟩ := m_strL rd gl hf (by rw [stps_cnt]; omega) (jI i) fu 0 m1 (by omega) (by have := gl.1; unfold fu; omega) s0
  refine ⟨m2, ?_, rd.k.tr sk.k, sk.t, fun j hj => ?_⟩
  · unfold f_Md_stretches
    rw [e1, bnd, show (jI i).toNatClampNeg = i from by rw [jI_c (by omega) (by omega)]; omega, rm1.px i (by omega), rm1.py i (by omega), if_pos hi, if_pos hi, jx (by omega) (by omega) (by omega)]
    simp only [if_true, bnd]
    have e2' : l_Md_stretches_26 fu (jI i) (jI f) (jL (a.px i)) (jL (a.py i)) 0 0 m1 = some (u, v, jI (lrc a i).length, w, m2) := by
      rw [← e2]
      simp [sumX, sumY, rcs]; rfl
    rw [e2']
    rfl
  · have := sk.o j hj
    rw [rd.o 11 (by omega), rd.o 12 (by omega), rd.o 13 (by omega), rd.o 14 (by omega)] at this
    exact this
end Lines
def seenR (RA RB : List Rec) (z C : Int) (p q : Nat) : Prop := ∃ i r j t, (i < p ∨ i = p ∧ j < q) ∧ RA[i]? = some r ∧ RB[j]? = some t ∧ 4 * (dsq r t + z * z) < C
def RP (RA RB : List Rec) (md : MS) : Prop := (RA.length ≤ 6) ∧ (RB.length ≤ 6) ∧ (∀ r ∈ RA, goodR r) ∧ (∀ r ∈ RB, goodR r) ∧ (∀ n r, RA[n]? = some r → md.2.2 11 n = jL r.1 ∧ md.2.2 12 n = jL r.2.1 ∧ md.2.2 13 n = jL r.2.2.1 ∧ md.2.2 14 n = jL r.2.2.2) ∧ (∀ n r, RB[n]? = some r → md.2.2 11 (6 + n) = jL r.1 ∧ md.2.2 12 (6 + n) = jL r.2.1 ∧ md.2.2 13 (6 + n) = jL r.2.2.1 ∧ md.2.2 14 (6 + n) = jL r.2.2.2)
theorem RP.la {RA RB : List Rec} {md : MS} (h9 : RP RA RB md) : RA.length ≤ 6 := h9.1
theorem RP.lb {RA RB : List Rec} {md : MS} (h9 : RP RA RB md) : RB.length ≤ 6 := h9.2.1
theorem RP.ga {RA RB : List Rec} {md : MS} (h9 : RP RA RB md) : ∀ r ∈ RA, goodR r := h9.2.2.1
theorem RP.gb {RA RB : List Rec} {md : MS} (h9 : RP RA RB md) : ∀ r ∈ RB, goodR r := h9.2.2.2.1
theorem RP.ta {RA RB : List Rec} {md : MS} (h9 : RP RA RB md) : ∀ n r, RA[n]? = some r → md.2.2 11 n = jL r.1 ∧ md.2.2 12 n = jL r.2.1 ∧ md.2.2 13 n = jL r.2.2.1 ∧ md.2.2 14 n = jL r.2.2.2 := h9.2.2.2.2.1
theorem RP.tb {RA RB : List Rec} {md : MS} (h9 : RP RA RB md) : ∀ n r, RB[n]? = some r → md.2.2 11 (6 + n) = jL r.1 ∧ md.2.2 12 (6 + n) = jL r.2.1 ∧ md.2.2 13 (6 + n) = jL r.2.2.1 ∧ md.2.2 14 (6 + n) = jL r.2.2.2 := h9.2.2.2.2.2
theorem RP.mk {RA RB : List Rec} {md : MS} (u_la : RA.length ≤ 6) (u_lb : RB.length ≤ 6) (u_ga : ∀ r ∈ RA, goodR r) (u_gb : ∀ r ∈ RB, goodR r) (u_ta : ∀ n r, RA[n]? = some r → md.2.2 11 n = jL r.1 ∧ md.2.2 12 n = jL r.2.1 ∧ md.2.2 13 n = jL r.2.2.1 ∧ md.2.2 14 n = jL r.2.2.2) (u_tb : ∀ n r, RB[n]? = some r → md.2.2 11 (6 + n) = jL r.1 ∧ md.2.2 12 (6 + n) = jL r.2.1 ∧ md.2.2 13 (6 + n) = jL r.2.2.1 ∧ md.2.2 14 (6 + n) = jL r.2.2.2) : RP RA RB md := ⟨u_la, u_lb, u_ga, u_gb, u_ta, u_tb⟩
theorem m_clJ {RA RB : List Rec} {md : MS} (h : RP RA RB md) {z b : Int} (hz : -200000 ≤ z ∧ z ≤ 200000) (hb : 0 ≤ b ∧ b ≤ 80) (y1 y2 y3 : Int32) {p : Nat} (hp : p < RA.length) : ∀ (n q : Nat) (s : Int), q ≤ RB.length → RB.length - q < n → (s = 0 ∨ s = 1) → (s = 1 ↔ seenR RA RB z (b * b) p q) →
    ∃ s2 w, l_Md_clash_120 n y1 y2 y3 (jI RB.length) (jL z) (jL b) (jI s) (jI p) (jI ((6 + q : Nat) : Int)) md = some (jI s2, w) ∧ (s2 = 0 ∨ s2 = 1) ∧ (s2 = 1 ↔ seenR RA RB z (b * b) p RB.length) := by
  intro n
  have hA := h.la
  have hB := h.lb
  induction n with
  | zero => intro q m _ hh; omega
  | succ n ih =>
    intro q s hq hf hs hi
    rw [l_Md_clash_120]
    by_cases c : q = RB.length
    · subst c
      exact ⟨s, _, by rw [if_pos (by simp (disch := omega) only [jI_lit, jL_lit, jI_n, jI_add, jI_sub, jI_mul, jI_neg, jL_add, jL_sub, jL_mul, jL_neg, jI_lt, jI_le, jI_eq, jL_lt, jL_le, jL_eq, jI_c, jI_64, jL_32, jI_div, jL_div, jx, bnd, if_true, if_false, if_pos, if_neg, Int.toNat_natCast, Int.reduceToNat, Int.add_zero, Int.zero_add, Int.reduceAdd, Int.reduceSub, Int.reduceMul, Int.reduceNeg, Int.reduceLT, Int.reduceLE, jI_rem, sI_1, sI_2, sA_1, sA_2, sA_3, sL_1, sL_2, sL_3, upd_a, updL_a, vaup_a, Nat.reduceEqDiff, Ab_sz, Ab_tx, Ab_ns, Ab_sn, Ab_sx, Ab_ru, Ab_nl, Ab_lsh, Ab_ld, Ab_lm, Ab_lg, Ab_pd, Ab_px, Ab_py, Ab_pz, Ab_kn, Ab_kl, Ab_km]; omega)], hs, hi⟩
    · have hq' : q < RB.length := by omega
      have e1 := List.getElem?_eq_getElem hp
      have e2 := List.getElem?_eq_getElem hq'
      have t1 := h.ta p _ e1
      have t2 := h.tb q _ e2
      have g1 := h.ga _ (List.mem_of_getElem? e1)
      have g2 := h.gb _ (List.mem_of_getElem? e2)
      have db := dsq_b g1 g2
      obtain ⟨a1, a2, a3, a4, a5, a6⟩ := g1
      obtain ⟨d1, d2, d3, d4, d5, d6⟩ := g2
      have m1 := m_gap a1 d1 a3 a4 d3 d4
      have m2 := m_gap a2 d2 a5 a6 d5 d6
      have hzz : 0 ≤ z * z ∧ z * z ≤ 40000000000 := by
        by_cases cz : 0 ≤ z
        · exact ⟨Int.mul_nonneg cz cz, by have := Int.mul_le_mul hz.2 hz.2 cz (by omega : (0 : Int) ≤ 200000); omega⟩
        · have h1 : z * z = (-z) * (-z) := by rw [Int.neg_mul_neg]
          rw [h1]
          exact ⟨Int.mul_nonneg (by omega) (by omega), by have := Int.mul_le_mul (show -z ≤ 200000 by omega) (show -z ≤ 200000 by omega) (by omega) (by omega : (0 : Int) ≤ 200000); omega⟩
      have hbb : 0 ≤ b * b ∧ b * b ≤ 6400 := ⟨Int.mul_nonneg hb.1 hb.1, by have := Int.mul_le_mul hb.2 hb.2 hb.1 (by omega : (0 : Int) ≤ 80); omega⟩
      have step : seenR RA RB z (b * b) p (q + 1) ↔ seenR RA RB z (b * b) p q ∨ 4 * (dsq RA[p] RB[q] + z * z) < b * b := by
        constructor
        · rintro ⟨i, r, j, t, hij, hr, ht, hd⟩
          by_cases ce : i = p ∧ j = q
          · obtain ⟨rfl, rfl⟩ := ce
            rw [e1] at hr; rw [e2] at ht
            obtain rfl := Option.some.inj hr
            obtain rfl := Option.some.inj ht
            exact Or.inr hd
          · exact Or.inl ⟨i, r, j, t, by omega, hr, ht, hd⟩
        · rintro (⟨i, s, j, t, hij, h⟩ | hd)
          · exact ⟨i, s, j, t, by omega, h⟩
          · exact ⟨p, _, q, _, Or.inr ⟨rfl, by omega⟩, e1, e2, hd⟩
      rw [if_neg (by simp (disch := omega) only [jI_lit, jL_lit, jI_n, jI_add, jI_sub, jI_mul, jI_neg, jL_add, jL_sub, jL_mul, jL_neg, jI_lt, jI_le, jI_eq, jL_lt, jL_le, jL_eq, jI_c, jI_64, jL_32, jI_div, jL_div, jx, bnd, if_true, if_false, if_pos, if_neg, Int.toNat_natCast, Int.reduceToNat, Int.add_zero, Int.zero_add, Int.reduceAdd, Int.reduceSub, Int.reduceMul, Int.reduceNeg, Int.reduceLT, Int.reduceLE, jI_rem, sI_1, sI_2, sA_1, sA_2, sA_3, sL_1, sL_2, sL_3, upd_a, updL_a, vaup_a, Nat.reduceEqDiff, Ab_sz, Ab_tx, Ab_ns, Ab_sn, Ab_sx, Ab_ru, Ab_nl, Ab_lsh, Ab_ld, Ab_lm, Ab_lg, Ab_pd, Ab_px, Ab_py, Ab_pz, Ab_kn, Ab_kl, Ab_km]; omega), jx (by omega) (by omega) (by omega), jx (by omega) (by omega) (by omega)]
      rw [show (jI p).toNatClampNeg = p from by rw [jI_c (by omega) (by omega)]; omega, show (jI ((6 + q : Nat) : Int)).toNatClampNeg = 6 + q from by rw [jI_c (by omega) (by omega)]; omega]
      rw [t1.1, t1.2.1, t1.2.2.1, t1.2.2.2, t2.1, t2.2.1, t2.2.2.1, t2.2.2.2, m1, m2]
      simp only [if_true, bnd, jL_mul, jL_add, jL_lit]
      rw [show gp (RA[p]).1 (RA[p]).2.1 (RB[q]).1 (RB[q]).2.1 * gp (RA[p]).1 (RA[p]).2.1 (RB[q]).1 (RB[q]).2.1 + gp (RA[p]).2.2.1 (RA[p]).2.2.2 (RB[q]).2.2.1 (RB[q]).2.2.2 * gp (RA[p]).2.2.1 (RA[p]).2.2.2 (RB[q]).2.2.1 (RB[q]).2.2.2 = dsq RA[p] RB[q] from rfl]
      generalize dsq RA[p] RB[q] = D at db step
      by_cases cD : b * b ≤ 4 * (D + z * z)
      · obtain ⟨s2, w, e3, r3, r4⟩ := ih (q + 1) s (by omega) (by omega) hs (by
          rw [hi, step]
          constructor
          · intro h; exact Or.inl h
          · rintro (h | h)
            · exact h
            · omega)
        refine ⟨s2, w, ?_, r3, r4⟩
        rw [if_pos (by rw [jL_le (by omega) (by omega) (by omega) (by omega)]; exact cD), show jI ((6 + q : Nat) : Int) + 1 = jI ((6 + (q + 1) : Nat) : Int) from jI_add _ 1]
        exact e3
      · obtain ⟨s2, w, e3, r3, r4⟩ := ih (q + 1) 1 (by omega) (by omega) (Or.inr rfl) (by
          rw [step]
          constructor
          · intro _; exact Or.inr (by omega)
          · intro _; rfl)
        refine ⟨s2, w, ?_, r3, r4⟩
        rw [if_neg (by rw [jL_le (by omega) (by omega) (by omega) (by omega)]; exact cD), show jI ((6 + q : Nat) : Int) + 1 = jI ((6 + (q + 1) : Nat) : Int) from jI_add _ 1]
        exact e3
theorem m_clI {RA RB : List Rec} {md : MS} (h : RP RA RB md) {z b : Int} (hz : -200000 ≤ z ∧ z ≤ 200000) (hb : 0 ≤ b ∧ b ≤ 80) (y1 y2 : Int32) : ∀ (n p : Nat) (s : Int), p ≤ RA.length → RA.length - p < n → (s = 0 ∨ s = 1) → (s = 1 ↔ seenR RA RB z (b * b) p 0) →
    ∃ s2 w, l_Md_clash_110 n y1 y2 (jI RA.length) (jI RB.length) (jL z) (jL b) (jI s) (jI p) md = some (jI s2, w) ∧ (s2 = 0 ∨ s2 = 1) ∧ (s2 = 1 ↔ seenR RA RB z (b * b) RA.length 0) := by
  intro n
  have hA := h.la
  have hB := h.lb
  induction n with
  | zero => intro q m _ hh; omega
  | succ n ih =>
    intro p s hp hf hs hi
    rw [l_Md_clash_110]
    by_cases c : p = RA.length
    · subst c
      exact ⟨s, _, by rw [if_pos (Int32.le_refl _)], hs, hi⟩
    · obtain ⟨s1, w1, e1, r1, r2⟩ := m_clJ h hz hb y1 y2 (jI RA.length) (show p < RA.length by omega) fu 0 s (by omega) (by unfold fu; omega) hs hi
      obtain ⟨s2, w2, e2, r3⟩ := ih (p + 1) s1 (by omega) (by omega) r1 (by
        rw [r2]
        constructor
        · rintro ⟨i, r, j, t, hij, hr, ht, hd⟩; exact ⟨i, r, j, t, by omega, hr, ht, hd⟩
        · rintro ⟨i, r, j, t, hij, hr, ht, hd⟩
          have := (List.getElem?_eq_some_iff.mp ht).1
          exact ⟨i, r, j, t, by omega, hr, ht, hd⟩)
      refine ⟨s2, w2, ?_, r3⟩
      have e1' : l_Md_clash_120 fu y1 y2 (jI RA.length) (jI RB.length) (jL z) (jL b) (jI s) (jI p) 6 md = some (jI s1, w1) := e1
      rw [if_neg (by simp (disch := omega) only [jI_lit, jL_lit, jI_n, jI_add, jI_sub, jI_mul, jI_neg, jL_add, jL_sub, jL_mul, jL_neg, jI_lt, jI_le, jI_eq, jL_lt, jL_le, jL_eq, jI_c, jI_64, jL_32, jI_div, jL_div, jx, bnd, if_true, if_false, if_pos, if_neg, Int.toNat_natCast, Int.reduceToNat, Int.add_zero, Int.zero_add, Int.reduceAdd, Int.reduceSub, Int.reduceMul, Int.reduceNeg, Int.reduceLT, Int.reduceLE, jI_rem, sI_1, sI_2, sA_1, sA_2, sA_3, sL_1, sL_2, sL_3, upd_a, updL_a, vaup_a, Nat.reduceEqDiff, Ab_sz, Ab_tx, Ab_ns, Ab_sn, Ab_sx, Ab_ru, Ab_nl, Ab_lsh, Ab_ld, Ab_lm, Ab_lg, Ab_pd, Ab_px, Ab_py, Ab_pz, Ab_kn, Ab_kl, Ab_km]; omega), e1', bnd, show jI (p : Int) + 1 = jI ((p + 1 : Nat) : Int) from jI_add _ 1]
      exact e2
section Lines
variable {a : Ab} {nl : Nat} {nT : Nat → Nat} {LS TS : Nat → MS} {FP : Nat → Bool} {FS : Nat → MS} {bc sg tr tu ff pl lw md : MS}
theorem seen_eq {X Y U V : Int} {L M : List Wst} {z C : Int} : seen X Y L U V M L.length 0 (C - 4 * (z * z)) ↔ seenR (rcs X Y L L.length) (rcs U V M M.length) z C (rcs X Y L L.length).length 0 := by
  constructor
  · rintro ⟨i, s, j, t, hij, hs, ht, b1, b2, hd⟩
    have h1 := (mem_rcs X Y L _ L.length).mpr ⟨i, s, (List.getElem?_eq_some_iff.mp hs).1, hs, b1, rfl⟩
    have h2 := (mem_rcs U V M _ M.length).mpr ⟨j, t, (List.getElem?_eq_some_iff.mp ht).1, ht, b2, rfl⟩
    obtain ⟨p, hp⟩ := List.getElem?_of_mem h1
    obtain ⟨q, hq⟩ := List.getElem?_of_mem h2
    exact ⟨p, _, q, _, Or.inl (List.getElem?_eq_some_iff.mp hp).1, hp, hq, by omega⟩
  · rintro ⟨p, r, q, u, hij, hp, hq, hd⟩
    obtain ⟨i, s, h1, h2, h3, rfl⟩ := (mem_rcs X Y L _ L.length).mp (List.mem_of_getElem? hp)
    obtain ⟨j, t, h4, h5, h6, rfl⟩ := (mem_rcs U V M _ M.length).mp (List.mem_of_getElem? hq)
    exact ⟨i, s, j, t, Or.inl h1, h2, h5, h3, h6, by omega⟩
theorem good_rcs {X Y : Int} {L : List Wst} (gl : goodL X Y L) : ∀ r ∈ rcs X Y L L.length, goodR r := fun r hr => by
  obtain ⟨i, s, h1, h2, h3, rfl⟩ := (mem_rcs X Y L _ L.length).mp hr
  exact good_rect gl h2
theorem x_clash (ok : Ok a) (rc : RC a nl nT LS TS FP FS bc sg) (rm : RM a md) (p1 p2 : Int32) : ∃ r tr' tu' md', f_Bc_clash nl nT LS TS FP FS bc sg tr tu ff pl lw p1 p2 = some (r, bc, sg, tr', tu', ff, pl, lw) ∧ f_Md_clash md p1 p2 = some (r, md') ∧ Keep md md' := by
  unfold f_Bc_clash f_Md_clash
  rcases x_line (tr := tr) (tu := tu) (ff := ff) (pl := pl) (lw := lw) ok rc rm p1 with ⟨i, hi, rfl, h1, h2⟩ | ⟨h1, h2⟩
  · rcases x_line (tr := tr) (tu := tu) (ff := ff) (pl := pl) (lw := lw) ok rc rm p2 with ⟨j, hj, rfl, h3, h4⟩ | ⟨h3, h4⟩
    · have hn := ok.nl
      rw [h1, h2, h3, h4]
      simp only [bnd, Option.elim_some]
      rw [if_neg (show ¬ (1 : Int32) = 0 by decide), if_neg (show ¬ (1 : Int32) = 0 by decide), c_told ok rc hi, m_told ok rm hi, c_told ok rc hj, m_told ok rm hj, (rc.ls i hi).pd, (rc.ls j hj).pd]
      rw [show (jI i).toNatClampNeg = i from by rw [jI_c (by omega) (by omega)]; omega, show (jI j).toNatClampNeg = j from by rw [jI_c (by omega) (by omega)]; omega, rm.pd i (by omega), rm.pd j (by omega), if_pos hi, if_pos hj, jx (by omega) (by omega) (by omega), jx (by omega) (by omega) (by omega)]
      simp only [bnd, if_true]
      by_cases cij : jI (i : Int) = jI (j : Int)
      · rw [if_pos cij, if_pos cij]
        exact ⟨_, tr, tu, md, rfl, rfl, Keep.rf md⟩
      · rw [if_neg cij, if_neg cij]
        cases cp : a.pd i with
        | false => exact ⟨_, tr, tu, md, rfl, rfl, Keep.rf md⟩
        | true =>
          cases cq : a.pd j with
          | false => exact ⟨_, tr, tu, md, rfl, rfl, Keep.rf md⟩
          | true =>
            cases ct : toldF (a.lg i) (lgs a i) with
            | false => exact ⟨_, tr, tu, md, rfl, rfl, Keep.rf md⟩
            | true =>
              cases cu : toldF (a.lg j) (lgs a j) with
              | false => exact ⟨_, tr, tu, md, rfl, rfl, Keep.rf md⟩
              | true =>
                simp only [show ¬ jI (b01 true) = 0 by decide, if_false]
                obtain ⟨t1, e1, r1⟩ := c_follow ok rc hi tr
                obtain ⟨t2, e2, r2⟩ := c_follow ok rc hj tu
                obtain ⟨m2, e3, b1, b2, b3⟩ := c_lsq r1 r2 (good_lst ok hi) (good_lst ok hj)
                obtain ⟨n1, e4, k1, s1, o1⟩ := m_stretches ok rm hi (f := 0) (by omega)
                obtain ⟨n2, e5, k2, s2, o2⟩ := m_stretches ok (rm.kept k1) hj (f := 6) (by omega)
                have rm2 := rm.kept (k1.tr k2)
                have la := lrc_len ok hi
                have lb := lrc_len ok hj
                have rp : RP (lrc a i) (lrc a j) n2 := ⟨la, lb, good_rcs (good_lst ok hi), good_rcs (good_lst ok hj), fun n r h => by
                  have hlt := (List.getElem?_eq_some_iff.mp h).1
                  have h5 := s1 n r h
                  rw [Nat.zero_add] at h5
                  have h6 := o2 n (by omega)
                  rw [h6.1, h6.2.1, h6.2.2.1, h6.2.2.2]; exact h5, s2⟩
                have z1 := ok.pz i hi
                have z2 := ok.pz j hj
                have d1 := ok.ld i hi
                have d2 := ok.ld j hj
                obtain ⟨s3, w, e6, c1, c2⟩ := m_clI rp (z := a.pz i - a.pz j) (b := a.ld i + a.ld j) (by omega) (by omega) (jI i) (jI j) fu 0 0 (by omega) (by unfold fu; omega) (Or.inl rfl) (by
                  constructor
                  · intro h; omega
                  · rintro ⟨p, r, q, t, hij, _⟩; omega)
                rw [e1, e2]
                simp only [bnd]
                rw [e3]
                have e4' : f_Md_stretches md (jI i) 0 = some (jI (lrc a i).length, n1) := e4
                have e5' : f_Md_stretches n1 (jI j) 6 = some (jI (lrc a j).length, n2) := e5
                rw [e4', (rc.ls i hi).di, (rc.ls j hj).di, (rc.ls i hi).pz, (rc.ls j hj).pz]
                simp only [bnd]
                rw [e5']
                simp only [bnd]
                rw [rm2.pz i (by omega), rm2.pz j (by omega), rm2.di i hi, rm2.di j hj, if_pos hi, if_pos hj]
                simp only [jI_add, jI_sub, jL_sub]
                rw [jI_64 (by omega) (by omega), jI_64 (by omega) (by omega)]
                have e6' : l_Md_clash_110 fu (jI i) (jI j) (jI (lrc a i).length) (jI (lrc a j).length) (jL (a.pz i - a.pz j)) (jL (a.ld i + a.ld j)) 0 0 n2 = some (jI s3, w) := e6
                rw [e6']
                simp only [bnd, jL_mul, jL_sub, jL_lit]
                have key := b3 ((a.ld i + a.ld j : Int) * (a.ld i + a.ld j) - 4 * ((a.pz i - a.pz j) * (a.pz i - a.pz j)))
                rw [seen_eq] at key
                have hzz : 0 ≤ (a.pz i - a.pz j) * (a.pz i - a.pz j) ∧ (a.pz i - a.pz j) * (a.pz i - a.pz j) ≤ 40000000000 := by
                  by_cases cz : 0 ≤ a.pz i - a.pz j
                  · exact ⟨Int.mul_nonneg cz cz, by have := Int.mul_le_mul (show a.pz i - a.pz j ≤ 200000 by omega) (show a.pz i - a.pz j ≤ 200000 by omega) cz (by omega : (0 : Int) ≤ 200000); omega⟩
                  · have h1 : (a.pz i - a.pz j) * (a.pz i - a.pz j) = (-(a.pz i - a.pz j)) * (-(a.pz i - a.pz j)) := by rw [Int.neg_mul_neg]
                    rw [h1]
                    exact ⟨Int.mul_nonneg (by omega) (by omega), by have := Int.mul_le_mul (show -(a.pz i - a.pz j) ≤ 200000 by omega) (show -(a.pz i - a.pz j) ≤ 200000 by omega) (by omega) (by omega : (0 : Int) ≤ 200000); omega⟩
                have hbb : 0 ≤ (a.ld i + a.ld j : Int) * (a.ld i + a.ld j) ∧ (a.ld i + a.ld j : Int) * (a.ld i + a.ld j) ≤ 6400 := ⟨Int.mul_nonneg (by omega) (by omega), by have := Int.mul_le_mul (show (a.ld i + a.ld j : Int) ≤ 80 by omega) (show (a.ld i + a.ld j : Int) ≤ 80 by omega) (by omega) (by omega : (0 : Int) ≤ 80); omega⟩
                rw [Int.mul_assoc 4]
                generalize (a.pz i - a.pz j) * (a.pz i - a.pz j) = Z at key hzz
                by_cases cs : 4 * m2 < (a.ld i + a.ld j : Int) * (a.ld i + a.ld j) - 4 * Z
                · have hk := key.mp cs
                  have : s3 = 1 := c2.mpr (by
                    rcases hk with hk | hk
                    · omega
                    · exact hk)
                  subst this
                  refine ⟨1, t1, t2, n2, ?_, rfl, k1.tr k2⟩
                  rw [if_neg (by rw [jL_le (by omega) (by omega) (by omega) (by omega)]; omega)]
                · have : s3 = 0 := by
                    rcases c1 with c1 | c1
                    · exact c1
                    · exact absurd (key.mpr (Or.inr (c2.mp c1))) cs
                  subst this
                  refine ⟨0, t1, t2, n2, ?_, rfl, k1.tr k2⟩
                  rw [if_pos (by rw [jL_le (by omega) (by omega) (by omega) (by omega)]; omega)]
    · rw [h1, h2, h3, h4]
      exact ⟨_, tr, tu, md, rfl, rfl, Keep.rf md⟩
  · rw [h1, h2]
    rcases x_line (tr := tr) (tu := tu) (ff := ff) (pl := pl) (lw := lw) ok rc rm p2 with ⟨j, hj, rfl, h3, h4⟩ | ⟨h3, h4⟩
    · rw [h3]; exact ⟨_, tr, tu, md, rfl, rfl, Keep.rf md⟩
    · rw [h3]; exact ⟨_, tr, tu, md, rfl, rfl, Keep.rf md⟩
end Lines
