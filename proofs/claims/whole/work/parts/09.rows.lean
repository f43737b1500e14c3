/-- the arrays' classes, by number -/
abbrev TY (tC : Nat → ClassId) : List (ClassId × FieldType) := [(tC 0, .int), (tC 1, .long), (tC 2, .char), (tC 3, .boolean), (tC 4, .object RX4), (tC 5, .object RX2), (tC 6, .object RX5)]
/-! rows of my own: rewriting the top, contracts that read, contracts that write, joins -/
section MyRows
variable {p : Program} {l : Launch} {e : Env} {R : Room} {s : State} {m : MethodId} {args : Array Value} {below : List Frame} {meth : Method} {c : Code} {H : Heap} {locs : List Loc} {cells slots : Nat} {Q : State → Prop} {pc : Nat} {ls : Array Slot} {rest st0 : List Value}
theorem rw_i {x : Int32} {y : Int32} (h : x = y) (k : W p l e R s m args below meth c H locs cells slots Q (F0 m pc ls (.int y :: rest))) : W p l e R s m args below meth c H locs cells slots Q (F0 m pc ls (.int x :: rest)) := by subst h; exact k
theorem rw_l {x : Int64} {y : Int64} (h : x = y) (k : W p l e R s m args below meth c H locs cells slots Q (F0 m pc ls (.long y :: rest))) : W p l e R s m args below meth c H locs cells slots Q (F0 m pc ls (.long x :: rest)) := by subst h; exact k
theorem rw_s {r : Option Nat} {a : Nat} (h : r = some a) (k : W p l e R s m args below meth c H locs cells slots Q (F0 m pc ls (.ref a :: rest))) : W p l e R s m args below meth c H locs cells slots Q (F0 m pc ls (va_rf r :: rest)) := by subst h; exact k
theorem rw_n {r : Option Nat} (h : r = none) (k : W p l e R s m args below meth c H locs cells slots Q (F0 m pc ls (.null :: rest))) : W p l e R s m args below meth c H locs cells slots Q (F0 m pc ls (va_rf r :: rest)) := by subst h; exact k
/-- the classes as the tables have them, and the arrays' classes -/
def KX (D : va_G) (tC : Nat → ClassId) (U : State) : Prop := va_K D vwCl (TY tC) U
/-- a contract that reads: the heap stays, the answer is r -/
def roP (D : va_G) (tC : Nat → ClassId) (H : Heap) (av : List Value) : Array Value → State → Prop := va_Pc av (fun U => U.heap = H ∧ va_K D vwCl (TY tC) U)
def roQ (H : Heap) (r : Option Value) : Array Value → State → Outcome → State → Prop := fun _ _ oc t => oc = .returned r ∧ t.heap = H
theorem ro_blind {D : va_G} {tC : Nat → ClassId} {H : Heap} {av : List Value} : FrameBlind (roP D tC H av) := fun a U g mk q => ⟨q.1, q.2.1, va_K.moved (u := U) (U := U.calling g mk a) (Vm.Alike.refl U.vm) q.2.2⟩
theorem ro_pre {D : va_G} {tC : Nat → ClassId} {H : Heap} {av : List Value} (hK : va_K D vwCl (TY tC) s) : ∀ U : State, U.heap = H → s.WarmedH U.vm → roP D tC H av av.toArray U := fun _ hU hW => ⟨rfl, hU, va_K.moved hW.alike hK⟩
theorem ro_go {r : Option Value} {a : Array Value} {H' : Heap} (hH : H' = H) (hr : va_Run p l e R s m args below meth c H locs cells slots 0 0 (F0 m pc ls st0) rest (roQ H' r a) (fun _ => False))
    (kk : W p l e R s m args below meth c H locs cells slots Q (F0 m (pc + 3) ls (r.toList ++ rest))) : W p l e R s m args below meth c H locs cells slots Q (F0 m pc ls st0) := by
  intro T hT X
  obtain ⟨v, st₀, t, T', L, h0, X', hL, e1, e2, ⟨hv, hh⟩, st⟩ := hr T hT X
  cases hv
  obtain ⟨t2, a1, b1⟩ := kk T' (by rw [e1, hh, hH]) (Stand.forget X' (fun q h => (hL q h).elim))
  exact ⟨t2, st t2 a1, b1⟩
/-- a contract that writes: the world ws becomes one of post -/
def wrP (D : va_G) (tC : Nat → ClassId) (ws : va_W) (sz : Nat) (av : List Value) : Array Value → State → Prop := va_Pc av (fun U => U.heap.size = sz ∧ va_P D vwCl ws U.heap ∧ va_K D vwCl (TY tC) U ∧ va_D (fun _ => True) ws)
def wrQ (D : va_G) (ws : va_W) (sz : Nat) (post : Option Value → va_W → Prop) : Array Value → State → Outcome → State → Prop := fun _ st oc t => (∃ (r : Option Value) (w : va_W), oc = .returned r ∧ post r w ∧ va_P D vwCl w t.heap ∧ va_D (va_A ws sz) w) ∧ va_F (va_A ws sz) st t
theorem wr_blind {D : va_G} {tC : Nat → ClassId} {ws : va_W} {sz : Nat} {av : List Value} : FrameBlind (wrP D tC ws sz av) := fun a U g mk q => ⟨q.1, q.2.1, q.2.2.1, va_K.moved (u := U) (U := U.calling g mk a) (Vm.Alike.refl U.vm) q.2.2.2.1, q.2.2.2.2⟩
theorem wr_pre {D : va_G} {tC : Nat → ClassId} {wc : va_W} {av : List Value} {A : Nat → Prop} (hK : va_K D vwCl (TY tC) s) (hP : va_P D vwCl wc H) (hD : va_D A wc) : ∀ U : State, U.heap = H → s.WarmedH U.vm → wrP D tC wc H.size av av.toArray U := fun _ hU hW => ⟨rfl, by rw [hU], by rw [hU]; exact hP, va_K.moved hW.alike hK, hD.weaken (fun _ _ _ _ => trivial)⟩
theorem wr_go {D : va_G} {wc : va_W} {mc ms : Nat} {A0 : Nat → Prop} {post : Option Value → va_W → Prop} {a : Array Value} (hr : va_Run p l e R s m args below meth c H locs cells slots mc ms (F0 m pc ls st0) rest (wrQ D wc H.size post a) (va_A wc H.size))
    (hS : va_S A0 s.heap H locs) (hF : ∀ q, va_A wc H.size q → A0 q)
    (kk : ∀ (r : Option Value) (w1 : va_W) (H1 : Heap) (locs1 : List Loc), post r w1 → va_P D vwCl w1 H1 → va_D (va_A wc H.size) w1 → (∀ q : Nat, q < H.size → ¬ va_A wc H.size q → H1[q]? = H[q]?) → va_S A0 s.heap H1 locs1 → W p l e R s m args below meth c H1 locs1 (cells + mc) (slots + ms) Q (F0 m (pc + 3) ls (r.toList ++ rest))) :
    W p l e R s m args below meth c H locs cells slots Q (F0 m pc ls st0) := by
  intro T hT X
  obtain ⟨v, st₀, t, T', L, h0, X', hL, e1, e2, ⟨⟨r, w, hv, hp, hP1, hD1⟩, hz, hk⟩, st⟩ := hr T hT X
  cases hv
  rw [h0] at hz hk
  obtain ⟨t2, a1, b1⟩ := kk v w T'.heap (locs ++ L) hp (by rw [e1]; exact hP1) hD1 (fun q h1 h2 => by rw [e1]; exact hk q h1 h2)
    ⟨Nat.le_trans hS.1 (by rw [e1]; exact hz), fun q h1 h2 => by rw [e1, hk q (Nat.lt_of_lt_of_le h1 hS.1) (fun z => h2 (hF q z))]; exact hS.2.1 q h1 h2, fun q hq => by
      rcases List.mem_append.mp hq with h | h
      · exact hS.2.2 q h
      · exact hF _ (hL q h)⟩ T' rfl X'
  exact ⟨t2, st t2 a1, b1⟩
end MyRows
/-- several cells of a world put anew -/
def setM : va_W → List Nat → va_W → va_W
  | ws, i :: is, c :: cs => setM (ws.set i c) is cs
  | ws, _, _ => ws
theorem setM_get : ∀ (is : List Nat) (cs ws : va_W) (k : Nat) (q : Nat × va_E), is.length = cs.length → (setM ws is cs)[k]? = some q → (∃ j : Nat, is[j]? = some k ∧ cs[j]? = some q) ∨ (ws[k]? = some q ∧ k ∉ is) := by
  intro is
  induction is with
  | nil =>
    intro cs ws k q hl h
    cases cs with
    | nil => exact Or.inr ⟨h, List.not_mem_nil⟩
    | cons c cs => cases hl
  | cons i is ih =>
    intro cs ws k q hl h
    cases cs with
    | nil => cases hl
    | cons c cs =>
      have hl' : is.length = cs.length := Nat.succ.inj hl
      rcases ih cs (ws.set i c) k q hl' h with ⟨j, h1, h2⟩ | ⟨h1, h2⟩
      · exact Or.inl ⟨j + 1, h1, h2⟩
      · by_cases hk : i = k
        · subst hk
          rw [List.getElem?_set] at h1
          split at h1
          · split at h1
            · exact Or.inl ⟨0, rfl, h1⟩
            · cases h1
          · exact absurd rfl (by assumption)
        · rw [List.getElem?_set_ne hk] at h1
          exact Or.inr ⟨h1, fun hm => by
            rcases List.mem_cons.mp hm with h3 | h3
            · exact hk h3.symm
            · exact h2 h3⟩
theorem setM_len : ∀ (is : List Nat) (cs ws : va_W), (setM ws is cs).length = ws.length := by
  intro is
  induction is with
  | nil => intro cs ws; cases cs <;> rfl
  | cons i is ih =>
    intro cs ws
    cases cs with
    | nil => rfl
    | cons c cs => show (setM (ws.set i c) is cs).length = _; rw [ih, List.length_set]
theorem jn_at {is : List Nat} {ws w : va_W} (hs : is.map (fun i => ws[i]?) = w.map some) (k : Nat) (q : Nat × va_E) (hq : w[k]? = some q) : ∃ i, is[k]? = some i ∧ ws[i]? = some q := by
  have h1 : (is.map (fun i => ws[i]?))[k]? = some (some q) := by rw [hs, List.getElem?_map, hq]; rfl
  rw [List.getElem?_map] at h1
  cases hi : is[k]? with
  | none => rw [hi] at h1; cases h1
  | some i => rw [hi] at h1; exact ⟨i, rfl, Option.some.inj h1⟩
theorem jn_fst {w1 wc : va_W} (h : w1.map Prod.fst = wc.map Prod.fst) {j : Nat} {q : Nat × va_E} (hj : w1[j]? = some q) : ∃ e, wc[j]? = some (q.1, e) := by
  have h1 : (w1.map Prod.fst)[j]? = some q.1 := by rw [List.getElem?_map, hj]; rfl
  rw [h, List.getElem?_map] at h1
  cases hi : wc[j]? with
  | none => rw [hi] at h1; cases h1
  | some x =>
    rw [hi] at h1
    obtain ⟨a, b⟩ := x
    have : a = q.1 := Option.some.inj h1
    exact ⟨b, by rw [← this]⟩
theorem jn_G {A0 : Nat → Prop} {D : va_G} {cl : List vw_C} {ws wc w1 ws' : va_W} {H H1 : Heap} (hP : va_P D cl ws H) (hD : va_D A0 ws) (hk : ∀ q : Nat, q < H.size → ¬ va_A wc H.size q → H1[q]? = H[q]?) (hP1 : va_P D cl w1 H1)
    (hx : ∀ (k : Nat) (q : Nat × va_E), ws'[k]? = some q → (∃ j : Nat, w1[j]? = some q) ∨ (ws[k]? = some q ∧ ∀ (j : Nat) (e : va_E), wc[j]? ≠ some (q.1, e))) (ha : ∀ (k : Nat) (q : Nat × va_E), ws'[k]? = some q → ∃ e, ws[k]? = some (q.1, e)) : va_P D cl ws' H1 ∧ va_D A0 ws' := by
  refine ⟨fun k q hq => ?_, fun i j a b h1 h2 hab => ?_, fun k q hq => ?_⟩
  · rcases hx k q hq with ⟨j, hj⟩ | ⟨h1, h2⟩
    · exact hP1 j q hj
    · refine (hP k q h1).kept (hk q.1 (hP k q h1).lt (fun h => ?_))
      rcases h with ⟨j, e, h3⟩ | h3
      · exact h2 j e h3
      · have := (hP k q h1).lt
        omega
  · obtain ⟨e1, g1⟩ := ha i a h1
    obtain ⟨e2, g2⟩ := ha j b h2
    exact hD.1 i j _ _ g1 g2 hab
  · obtain ⟨e1, g1⟩ := ha k q hq
    exact hD.2 k (q.1, e1) g1
/-- the callee's cells put back where they stood -/
theorem jn_S {A0 : Nat → Prop} {D : va_G} {cl : List vw_C} {ws wc w1 : va_W} {H H1 : Heap} (hP : va_P D cl ws H) (hD : va_D A0 ws) (isC : List Nat) (hC : isC.map (fun i => ws[i]?) = wc.map some)
    (hk : ∀ q : Nat, q < H.size → ¬ va_A wc H.size q → H1[q]? = H[q]?) (hP1 : va_P D cl w1 H1) (hf : w1.map Prod.fst = wc.map Prod.fst) : va_P D cl (setM ws isC w1) H1 ∧ va_D A0 (setM ws isC w1) := by
  have hlen : isC.length = w1.length := by
    have h1 := congrArg List.length hC
    have h2 := congrArg List.length hf
    simp only [List.length_map] at h1 h2
    omega
  refine jn_G hP hD hk hP1 (fun k q hq => ?_) (fun k q hq => ?_)
  · rcases setM_get isC w1 ws k q hlen hq with ⟨j, h1, h2⟩ | ⟨h1, h2⟩
    · exact Or.inl ⟨j, h2⟩
    · refine Or.inr ⟨h1, fun j e h3 => ?_⟩
      obtain ⟨i, g1, g2⟩ := jn_at hC j _ h3
      have := hD.1 k i _ _ h1 g2 rfl
      subst this
      exact h2 (List.mem_of_getElem? g1)
  · rcases setM_get isC w1 ws k q hlen hq with ⟨j, h1, h2⟩ | ⟨h1, h2⟩
    · obtain ⟨e, g⟩ := jn_fst hf h2
      obtain ⟨i, g1, g2⟩ := jn_at hC j _ g
      rw [h1] at g1
      cases g1
      exact ⟨e, g2⟩
    · exact ⟨q.2, h1⟩
/-- the same where the callee reads cells of the tail -/
theorem jn_R {A0 : Nat → Prop} {D : va_G} {cl : List vw_C} {X PL wf wro wf1 : va_W} {H H1 : Heap} (hP : va_P D cl (X ++ PL) H) (hD : va_D A0 (X ++ PL)) (isC : List Nat) (hC : isC.map (fun i => X[i]?) = wf.map some) (hro : ∀ q ∈ wro, q ∈ PL)
    (hk : ∀ q : Nat, q < H.size → ¬ va_A (wf ++ wro) H.size q → H1[q]? = H[q]?) (hP1 : va_P D cl (wf1 ++ wro) H1) (hf : wf1.map Prod.fst = wf.map Prod.fst) : va_P D cl (setM X isC wf1 ++ PL) H1 ∧ va_D A0 (setM X isC wf1 ++ PL) := by
  have hlen : isC.length = wf1.length := by
    have h1 := congrArg List.length hC
    have h2 := congrArg List.length hf
    simp only [List.length_map] at h1 h2
    omega
  have hXl : ∀ (i : Nat) (q : Nat × va_E), X[i]? = some q → (X ++ PL)[i]? = some q := fun i q h => by
    rw [List.getElem?_append_left (List.getElem?_eq_some_iff.mp h).1]; exact h
  have hPl : ∀ (i : Nat) (q : Nat × va_E), PL[i]? = some q → (X ++ PL)[X.length + i]? = some q := fun i q h => by
    rw [List.getElem?_append_right (by omega), Nat.add_sub_cancel_left]; exact h
  have split : ∀ (k : Nat) (q : Nat × va_E), (setM X isC wf1 ++ PL)[k]? = some q → (k < X.length ∧ (setM X isC wf1)[k]? = some q) ∨ (X.length ≤ k ∧ PL[k - X.length]? = some q) := by
    intro k q h
    by_cases hl : k < X.length
    · rw [List.getElem?_append_left (by rw [setM_len]; exact hl)] at h
      exact Or.inl ⟨hl, h⟩
    · rw [List.getElem?_append_right (by rw [setM_len]; omega), setM_len] at h
      exact Or.inr ⟨by omega, h⟩
  have back : ∀ (k : Nat) (q : Nat × va_E), X.length ≤ k → PL[k - X.length]? = some q → (X ++ PL)[k]? = some q := fun k q h1 h2 => by
    rw [List.getElem?_append_right h1]; exact h2
  refine jn_G hP hD hk hP1 (fun k q hq => ?_) (fun k q hq => ?_)
  · rcases split k q hq with ⟨hl, h⟩ | ⟨hl, h⟩
    · rcases setM_get isC wf1 X k q hlen h with ⟨j, h1, h2⟩ | ⟨h1, h2⟩
      · refine Or.inl ⟨j, ?_⟩
        rw [List.getElem?_append_left (List.getElem?_eq_some_iff.mp h2).1]; exact h2
      · refine Or.inr ⟨hXl _ _ h1, fun j e h3 => ?_⟩
        have hm := List.mem_of_getElem? h3
        rcases List.mem_append.mp hm with hm | hm
        · obtain ⟨j2, hj2⟩ := List.getElem?_of_mem hm
          obtain ⟨i, g1, g2⟩ := jn_at hC j2 _ hj2
          have := hD.1 k i _ _ (hXl _ _ h1) (hXl _ _ g2) rfl
          subst this
          exact h2 (List.mem_of_getElem? g1)
        · obtain ⟨i, hi⟩ := List.getElem?_of_mem (hro _ hm)
          have := hD.1 k _ _ _ (hXl _ _ h1) (hPl _ _ hi) rfl
          omega
    · by_cases hin : ∃ e, (q.1, e) ∈ wro
      · obtain ⟨e, he⟩ := hin
        obtain ⟨i, hi⟩ := List.getElem?_of_mem (hro _ he)
        have := hD.1 k _ _ _ (back k q hl h) (hPl _ _ hi) rfl
        have h4 := back k q hl h
        rw [this, hPl _ _ hi] at h4
        have h5 : (q.1, e) = q := Option.some.inj h4
        rw [h5] at he
        obtain ⟨j, hj⟩ := List.getElem?_of_mem (List.mem_append_right wf1 he)
        exact Or.inl ⟨j, hj⟩
      · refine Or.inr ⟨back k q hl h, fun j e h3 => ?_⟩
        have hm := List.mem_of_getElem? h3
        rcases List.mem_append.mp hm with hm | hm
        · obtain ⟨j2, hj2⟩ := List.getElem?_of_mem hm
          obtain ⟨i, g1, g2⟩ := jn_at hC j2 _ hj2
          have := hD.1 k i _ _ (back k q hl h) (hXl _ _ g2) rfl
          have := (List.getElem?_eq_some_iff.mp g2).1
          omega
        · exact hin ⟨e, hm⟩
  · rcases split k q hq with ⟨hl, h⟩ | ⟨hl, h⟩
    · rcases setM_get isC wf1 X k q hlen h with ⟨j, h1, h2⟩ | ⟨h1, h2⟩
      · obtain ⟨e, g⟩ := jn_fst hf h2
        obtain ⟨i, g1, g2⟩ := jn_at hC j _ g
        rw [h1] at g1
        cases g1
        exact ⟨e, hXl _ _ g2⟩
      · exact ⟨q.2, hXl _ _ h1⟩
    · exact ⟨q.2, back k q hl h⟩
/-- the callee's cells stand at the end -/
theorem jn_A {A0 : Nat → Prop} {D : va_G} {cl : List vw_C} {wr wc w1 : va_W} {H H1 : Heap} (hP : va_P D cl (wr ++ wc) H) (hD : va_D A0 (wr ++ wc)) (hk : ∀ q : Nat, q < H.size → ¬ va_A wc H.size q → H1[q]? = H[q]?) (hF : ∀ q, va_A wc H.size q → A0 q) (hP1 : va_P D cl w1 H1) (hD1 : va_D (va_A wc H.size) w1) :
    va_P D cl (wr ++ w1) H1 ∧ va_D A0 (wr ++ w1) := by
  have hl : ∀ (i : Nat) (q : Nat × va_E), wr[i]? = some q → (wr ++ wc)[i]? = some q := fun i q h => by
    rw [List.getElem?_append_left (List.getElem?_eq_some_iff.mp h).1]; exact h
  have hr : ∀ (i : Nat) (q : Nat × va_E), wc[i]? = some q → (wr ++ wc)[wr.length + i]? = some q := fun i q h => by
    rw [List.getElem?_append_right (by omega), Nat.add_sub_cancel_left]; exact h
  have apart : ∀ (k : Nat) (q : Nat × va_E), wr[k]? = some q → q.1 < H.size ∧ ¬ va_A wc H.size q.1 := by
    intro k q hq
    have hlt := (hP k q (hl k q hq)).lt
    refine ⟨hlt, fun h => ?_⟩
    rcases h with ⟨j, e, h⟩ | h
    · have := hD.1 k _ _ _ (hl k q hq) (hr j _ h) rfl
      have := (List.getElem?_eq_some_iff.mp hq).1
      omega
    · omega
  refine ⟨va_P.app (fun k q hq => ?_) hP1, va_D.app ⟨fun i j a b h1 h2 h3 => hD.1 i j a b (hl i a h1) (hl j b h2) h3, fun k q h => hD.2 k q (hl k q h)⟩ (hD1.weaken (fun k q _ h => hF q.1 h)) (fun i j x y hx hy hxy => ?_)⟩
  · obtain ⟨g1, g2⟩ := apart k q hq
    exact (hP k q (hl k q hq)).kept (hk q.1 g1 g2)
  · obtain ⟨g1, g2⟩ := apart i x hx
    have := hD1.2 j y hy
    rw [← hxy] at this
    exact g2 this
theorem tl_at {X PL : va_W} {k : Nat} {q : Nat × va_E} (h : PL[k]? = some q) : (X ++ PL)[X.length + k]? = some q := by
  rw [List.getElem?_append_right (by omega), Nat.add_sub_cancel_left]; exact h
theorem tl_set {X PL : va_W} {k : Nat} {q : Nat × va_E} : (X ++ PL).set (X.length + k) q = X ++ PL.set k q := by
  rw [List.set_append_right _ _ (by omega), Nat.add_sub_cancel_left]
/-! the states of modules: scalars, arrays of ints, arrays of longs; functions that may fail -/
abbrev MS : Type := (Nat → Int32) × (Nat → Nat → Int32) × (Nat → Nat → Int64)
def sI (S : MS) (k : Nat) (v : Int32) : MS := (va_up S.1 k v, S.2)
def sA (S : MS) (k : Nat) (f : Nat → Int32) : MS := (S.1, va_up S.2.1 k f, S.2.2)
def sL (S : MS) (k : Nat) (f : Nat → Int64) : MS := (S.1, S.2.1, va_up S.2.2 k f)
/-- the fuel of a loop -/
def fu : Nat := 1000000000000000000
/-- an index is in an array -/
def ix (i : Int32) (n : Nat) : Bool := decide (¬ (i < 0 ∨ n ≤ i.toNatClampNeg))
theorem ix_in {i : Int32} {n : Nat} (h : ix i n = true) : vp_in i n := of_decide_eq_true (p := ¬ (i < 0 ∨ n ≤ i.toNatClampNeg)) h
theorem op_if {α : Type} {c : Prop} [Decidable c] {A : Option α} {R : α} (h : (if c then A else none) = some R) : c ∧ A = some R := by
  by_cases hc : c
  · rw [if_pos hc] at h; exact ⟨hc, h⟩
  · rw [if_neg hc] at h; cases h
theorem op_nif {α : Type} {c : Prop} [Decidable c] {A : Option α} {R : α} (h : (if c then none else A) = some R) : ¬ c ∧ A = some R := by
  by_cases hc : c
  · rw [if_pos hc] at h; cases h
  · rw [if_neg hc] at h; exact ⟨hc, h⟩
theorem op_t {α : Type} {c : Prop} [Decidable c] {A B R : α} (h : (if c then A else B) = R) (hc : c) : A = R := (if_pos hc).symm.trans h
theorem op_e {α : Type} {c : Prop} [Decidable c] {A B R : α} (h : (if c then A else B) = R) (hc : ¬ c) : B = R := (if_neg hc).symm.trans h
theorem op_b {α β : Type} {x : Option α} {k : α → Option β} {R : β} (h : x.bind k = some R) : ∃ q, x = some q ∧ k q = some R := by
  cases x with
  | none => cases h
  | some q => exact ⟨q, rfl, h⟩
section MyRows2
variable {p : Program} {l : Launch} {e : Env} {R : Room} {s : State} {m : MethodId} {args : Array Value} {below : List Frame} {meth : Method} {c : Code} {H : Heap} {locs : List Loc} {cells slots : Nat} {Q : State → Prop} {pc : Nat} {ls : Array Slot} {rest st0 : List Value}
theorem q_w {Q0 : State → Prop} {g : JFrame} (k : ∀ Q : State → Prop, Q = Q0 → W p l e R s m args below meth c H locs cells slots Q g) : W p l e R s m args below meth c H locs cells slots Q0 g := k Q0 rfl
theorem en_w {av : List Value} {n : Nat} (hav : args = av.toArray) (hn : (lg_sl av).length ≤ n) (k : ∀ ls : Array Slot, lv_has ls n (lv_args 0 av) → W p l e R s m args below meth c H locs cells slots Q (F0 m 0 ls [])) : W p l e R s m args below meth c H locs cells slots Q (entryFrame m args n) := by
  have h : entryFrame m args n = F0 m 0 ((lg_sl av ++ List.replicate (n - (lg_sl av).length) Slot.unset).toArray) [] := by rw [hav, lg_entry_eq]
  rw [h]
  exact k _ (lv_entry av hn)
end MyRows2
