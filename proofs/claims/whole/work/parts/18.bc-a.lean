/-- the families: lines (and their shapes) and shelves stand in the tail of the world; the arrays of references know them -/
def FM (tC : Nat → ClassId) (TL : va_W) (nl : Nat) (hL : Nat → Nat) (adL aT : Nat → Nat → Nat) (nT : Nat → Nat) (LS TS : Nat → MS) (FP : Nat → Bool) (hF : Nat → Nat) (adF : Nat → Nat → Nat) (FS : Nat → MS) (rf : Nat → Nat → Option Nat) : Prop :=
  (∀ i, i < nl → ∀ q ∈ w_Ln_ (hL i) (adL i) tC (LS i), q ∈ TL) ∧ (∀ i, i < nl → ∀ q ∈ w_Sh_ (adL i 100) (aT i) tC (nT i) (TS i), q ∈ TL) ∧ (∀ i, i < nl → rf 1 i = some (hL i)) ∧
  (∀ d, FP d = true → ∀ q ∈ w_Sf_ (hF d) (adF d) tC (FS d), q ∈ TL) ∧ (∀ d, FP d = true → rf 2 d = some (hF d)) ∧ (∀ d, FP d = false → rf 2 d = none) ∧ (∀ i, i < nl → [hL i, adL i 0, adL i 100, aT i 0].Nodup) ∧ (∀ d, FP d = true → [hF d, adF d 0, adF d 1].Nodup)
def w_Bc_ (h : Nat) (ad : Nat → Nat) (tC : Nat → ClassId) (rf : Nat → Nat → Option Nat) (S : MS) : va_W := [(h, .inr (8, [.ref (ad 100), .ref (ad 0), .ref (ad 1), .ref (ad 2), .ref (ad 3), .ref (ad 101), .ref (ad 102), .ref (ad 103), .ref (ad 104), .ref (ad 105), .int (S.1 0), .int (S.1 1)])), (ad 0, .inl (tC 4, 10, .inr (.inr (.inr (.inr (rf 0)))))), (ad 1, .inl (tC 5, 12, .inr (.inr (.inr (.inr (rf 1)))))), (ad 2, .inl (tC 0, 37, .inl (S.2.1 0))), (ad 3, .inl (tC 6, 37, .inr (.inr (.inr (.inr (rf 2))))))]
theorem wu_Bc_s0 {h : Nat} {ad : Nat → Nat} {tC : Nat → ClassId} {rf : Nat → Nat → Option Nat} {S : MS} {v : Int32} : List.set (w_Bc_ h ad tC rf S) 0 (h, .inr (8, List.set [.ref (ad 100), .ref (ad 0), .ref (ad 1), .ref (ad 2), .ref (ad 3), .ref (ad 101), .ref (ad 102), .ref (ad 103), .ref (ad 104), .ref (ad 105), .int (S.1 0), .int (S.1 1)] 10 (.int v))) = w_Bc_ h ad tC rf (sI S 0 v) := rfl
theorem wu_Bc_s1 {h : Nat} {ad : Nat → Nat} {tC : Nat → ClassId} {rf : Nat → Nat → Option Nat} {S : MS} {v : Int32} : List.set (w_Bc_ h ad tC rf S) 0 (h, .inr (8, List.set [.ref (ad 100), .ref (ad 0), .ref (ad 1), .ref (ad 2), .ref (ad 3), .ref (ad 101), .ref (ad 102), .ref (ad 103), .ref (ad 104), .ref (ad 105), .int (S.1 0), .int (S.1 1)] 11 (.int v))) = w_Bc_ h ad tC rf (sI S 1 v) := rfl
theorem wu_Bc_a0 {h : Nat} {ad : Nat → Nat} {tC : Nat → ClassId} {rf : Nat → Nat → Option Nat} {S : MS} {f : Nat → Int32} : List.set (w_Bc_ h ad tC rf S) 3 (ad 2, .inl (tC 0, 37, .inl f)) = w_Bc_ h ad tC rf (sA S 0 f) := rfl
theorem sr_Bc {h : Nat} {ad : Nat → Nat} {tC : Nat → ClassId} {rf : Nat → Nat → Option Nat} {S : MS} {Y : va_W} {i : Nat} {c : Nat × va_E} : List.set (w_Bc_ h ad tC rf S ++ Y) (i + 5) c = w_Bc_ h ad tC rf S ++ List.set Y i c := rfl
theorem sl_Bc_0 {h : Nat} {ad : Nat → Nat} {tC : Nat → ClassId} {rf : Nat → Nat → Option Nat} {S : MS} {Y : va_W} {c : Nat × va_E} : List.set (w_Bc_ h ad tC rf S ++ Y) 0 c = List.set (w_Bc_ h ad tC rf S) 0 c ++ Y := rfl
theorem sl_Bc_3 {h : Nat} {ad : Nat → Nat} {tC : Nat → ClassId} {rf : Nat → Nat → Option Nat} {S : MS} {Y : va_W} {c : Nat × va_E} : List.set (w_Bc_ h ad tC rf S ++ Y) 3 c = List.set (w_Bc_ h ad tC rf S) 3 c ++ Y := rfl
theorem oe_n {α β : Type} {A : β} {f : α → β} {R : β} (h : Option.elim (none : Option α) A f = R) : A = R := h
theorem oe_s {α β : Type} {i : α} {A : β} {f : α → β} {R : β} (h : Option.elim (some i) A f = R) : f i = R := h
theorem va_P_in {D : va_G} {cl : List vw_C} {ws w : va_W} {H : Heap} (h : va_P D cl ws H) (hs : ∀ q ∈ w, q ∈ ws) : va_P D cl w H := fun k q hk => by
  obtain ⟨j, hj⟩ := List.getElem?_of_mem (hs q (List.mem_of_getElem? hk))
  exact h j q hj
theorem va_freeAll {A0 : Nat → Prop} {ws : va_W} {H0 H : Heap} {locs : List Loc} (hD : va_D A0 ws) (hS : va_S A0 H0 H locs) (hA : ∀ q, H0.size ≤ q → A0 q) : ∀ q, va_A ws H.size q → A0 q := fun q h => by
  rcases h with ⟨k, e, h⟩ | h
  · exact hD.2 k _ h
  · exact hA q (Nat.le_trans hS.1 h)
theorem D_l {A : Nat → Prop} {X Y : va_W} (h : va_D A (X ++ Y)) : va_D A X := ⟨fun i j p q h1 h2 h3 => h.1 i j p q (by rw [List.getElem?_append_left (List.getElem?_eq_some_iff.mp h1).1]; exact h1) (by rw [List.getElem?_append_left (List.getElem?_eq_some_iff.mp h2).1]; exact h2) h3, fun k q hk => h.2 k q (by rw [List.getElem?_append_left (List.getElem?_eq_some_iff.mp hk).1]; exact hk)⟩
theorem D_at {X Y : va_W} {k : Nat} {q : Nat × va_E} (h : Y[k]? = some q) : (X ++ Y)[X.length + k]? = some q := by rw [List.getElem?_append_right (by omega), Nat.add_sub_cancel_left]; exact h
theorem D_r {A : Nat → Prop} {X Y : va_W} (h : va_D A (X ++ Y)) : va_D A Y := ⟨fun i j p q h1 h2 h3 => by
  have := h.1 _ _ p q (D_at h1) (D_at h2) h3
  omega, fun k q hk => h.2 _ q (D_at hk)⟩
theorem D_dis {A : Nat → Prop} {X Y : va_W} (h : va_D A (X ++ Y)) {p q : Nat × va_E} (hp : p ∈ X) (hq : q ∈ Y) : p.1 ≠ q.1 := fun e => by
  obtain ⟨i, hi⟩ := List.getElem?_of_mem hp
  obtain ⟨j, hj⟩ := List.getElem?_of_mem hq
  have hl := (List.getElem?_eq_some_iff.mp hi).1
  have := h.1 i _ p q (by rw [List.getElem?_append_left hl]; exact hi) (D_at hj) e
  omega
theorem D_un {A : Nat → Prop} {ws : va_W} (h : va_D A ws) {p q : Nat × va_E} (hp : p ∈ ws) (hq : q ∈ ws) (e : p.1 = q.1) : p = q := by
  obtain ⟨i, hi⟩ := List.getElem?_of_mem hp
  obtain ⟨j, hj⟩ := List.getElem?_of_mem hq
  have := h.1 i j p q hi hj e
  subst this
  rw [hi] at hj
  exact Option.some.inj hj
theorem D_in {A : Nat → Prop} {ws : va_W} (h : va_D A ws) {p : Nat × va_E} (hp : p ∈ ws) : A p.1 := by
  obtain ⟨i, hi⟩ := List.getElem?_of_mem hp
  exact h.2 i p hi
theorem cv_P {D : va_G} {cl : List vw_C} {ws ws' : va_W} {H : Heap} (h : va_P D cl ws H) (e : ws = ws') : va_P D cl ws' H := e ▸ h
theorem cv_D {A : Nat → Prop} {ws ws' : va_W} (h : va_D A ws) (e : ws = ws') : va_D A ws' := e ▸ h
theorem cv_F {A : Nat → Prop} {ws ws' : va_W} {n : Nat} (h : ∀ q, va_A ws n q → A q) (e : ws = ws') : ∀ q, va_A ws' n q → A q := e ▸ h
theorem cv_k {ws ws' : va_W} {H H1 : Heap} (h : ∀ q : Nat, q < H.size → ¬ va_A ws H.size q → H1[q]? = H[q]?) (e : ws = ws') : ∀ q : Nat, q < H.size → ¬ va_A ws' H.size q → H1[q]? = H[q]? := e ▸ h
theorem bk_cut {A : Nat → Prop} {D : va_G} {cl : List vw_C} {pre B suf wro : va_W} {H0 H : Heap} {locs : List Loc} (hP : va_P D cl (pre ++ (B ++ suf)) H) (hD : va_D A (pre ++ (B ++ suf))) (hS : va_S A H0 H locs) (hA : ∀ q, H0.size ≤ q → A q) (hro : ∀ q ∈ wro, q ∈ suf) (hn : (wro.map Prod.fst).Nodup) :
    va_P D cl (B ++ wro) H ∧ va_D A (B ++ wro) ∧ ∀ q, va_A (B ++ wro) H.size q → A q := by
  have hDB := D_r hD
  have hmem : ∀ q ∈ B ++ wro, q ∈ B ++ suf := fun q h => (List.mem_append.mp h).elim (fun h => List.mem_append_left _ h) (fun h => List.mem_append_right _ (hro q h))
  refine ⟨va_P_in hP (fun q h => List.mem_append_right _ (hmem q h)), va_D.app (D_l hDB) ⟨fun i j p q h1 h2 h3 => ?_, fun k q h => D_in hDB (List.mem_append_right _ (hro _ (List.mem_of_getElem? h)))⟩ (fun i j p q h1 h2 => D_dis hDB (List.mem_of_getElem? h1) (hro _ (List.mem_of_getElem? h2))), fun q h => ?_⟩
  · have e1 : (wro.map Prod.fst)[i]? = some p.1 := by rw [List.getElem?_map, h1]; rfl
    have e2 : (wro.map Prod.fst)[j]? = some q.1 := by rw [List.getElem?_map, h2]; rfl
    rw [h3] at e1
    exact (List.getElem?_inj (List.getElem?_eq_some_iff.mp e1).1 hn).mp (e1.trans e2.symm)
  · rcases h with ⟨k, e, h⟩ | h
    · exact D_in hDB (hmem _ (List.mem_of_getElem? h))
    · exact hA q (Nat.le_trans hS.1 h)
theorem bk_join {A : Nat → Prop} {D : va_G} {cl : List vw_C} {pre B B1 suf wro : va_W} {H H1 : Heap} (hP : va_P D cl (pre ++ (B ++ suf)) H) (hD : va_D A (pre ++ (B ++ suf))) (hro : ∀ q ∈ wro, q ∈ suf)
    (hk : ∀ q : Nat, q < H.size → ¬ va_A (B ++ wro) H.size q → H1[q]? = H[q]?) (hP1 : va_P D cl (B1 ++ wro) H1) (hf : B1.map Prod.fst = B.map Prod.fst) : va_P D cl (pre ++ (B1 ++ suf)) H1 ∧ va_D A (pre ++ (B1 ++ suf)) := by
  have hDB := D_r hD
  have hk2 : ∀ q ∈ pre ++ (B ++ suf), (∀ e, (q.1, e) ∉ B ++ wro) → va_at D cl q H1 := fun q hq hne => by
    obtain ⟨k, hk'⟩ := List.getElem?_of_mem hq
    refine (hP k q hk').kept (hk q.1 (hP k q hk').lt (fun h => ?_))
    rcases h with ⟨j, e, h3⟩ | h3
    · exact hne e (List.mem_of_getElem? h3)
    · have := (hP k q hk').lt
      omega
  have hmap : (pre ++ (B1 ++ suf)).map Prod.fst = (pre ++ (B ++ suf)).map Prod.fst := by simp only [List.map_append, hf]
  refine ⟨fun k q hq => ?_, fun i j a b h1 h2 hab => ?_, fun k q hq => ?_⟩
  · have hm := List.mem_of_getElem? hq
    rcases List.mem_append.mp hm with h | h
    · refine hk2 q (List.mem_append_left _ h) (fun e he => ?_)
      rcases List.mem_append.mp he with h4 | h4
      · exact D_dis hD h (List.mem_append_left _ h4) rfl
      · exact D_dis hD h (List.mem_append_right _ (hro _ h4)) rfl
    · rcases List.mem_append.mp h with h | h
      · obtain ⟨j, hj⟩ := List.getElem?_of_mem (List.mem_append_left wro h)
        exact hP1 j q hj
      · by_cases hin : ∃ e, (q.1, e) ∈ wro
        · obtain ⟨e, he⟩ := hin
          have := D_un (D_r hDB) h (hro _ he) rfl
          rw [← this] at he
          obtain ⟨j, hj⟩ := List.getElem?_of_mem (List.mem_append_right B1 he)
          exact hP1 j q hj
        · refine hk2 q (List.mem_append_right _ (List.mem_append_right _ h)) (fun e he => ?_)
          rcases List.mem_append.mp he with h4 | h4
          · exact D_dis hDB h4 h rfl
          · exact hin ⟨e, h4⟩
  · obtain ⟨e1, g1⟩ := jn_fst hmap h1
    obtain ⟨e2, g2⟩ := jn_fst hmap h2
    exact hD.1 i j _ _ g1 g2 hab
  · obtain ⟨e1, g1⟩ := jn_fst hmap hq
    exact hD.2 k (q.1, e1) g1
theorem bk_cut0 {A : Nat → Prop} {D : va_G} {cl : List vw_C} {pre B suf : va_W} {H0 H : Heap} {locs : List Loc} (hP : va_P D cl (pre ++ (B ++ suf)) H) (hD : va_D A (pre ++ (B ++ suf))) (hS : va_S A H0 H locs) (hA : ∀ q, H0.size ≤ q → A q) :
    va_P D cl B H ∧ va_D A B ∧ ∀ q, va_A B H.size q → A q := by
  have h := bk_cut (wro := []) hP hD hS hA (fun q h => by cases h) List.nodup_nil
  rw [List.append_nil] at h
  exact h
theorem bk_join0 {A : Nat → Prop} {D : va_G} {cl : List vw_C} {pre B B1 suf : va_W} {H H1 : Heap} (hP : va_P D cl (pre ++ (B ++ suf)) H) (hD : va_D A (pre ++ (B ++ suf)))
    (hk : ∀ q : Nat, q < H.size → ¬ va_A B H.size q → H1[q]? = H[q]?) (hP1 : va_P D cl B1 H1) (hf : B1.map Prod.fst = B.map Prod.fst) : va_P D cl (pre ++ (B1 ++ suf)) H1 ∧ va_D A (pre ++ (B1 ++ suf)) :=
  bk_join (wro := []) hP hD (fun q h => by cases h) (by rw [List.append_nil]; exact hk) (by rw [List.append_nil]; exact hP1) hf
theorem cut_P {D : va_G} {cl : List vw_C} {X TL wf wro : va_W} {H : Heap} (hP : va_P D cl (X ++ TL) H) (is : List Nat) (hC : is.map (fun i => X[i]?) = wf.map some) (hro : ∀ q ∈ wro, q ∈ TL) : va_P D cl (wf ++ wro) H := by
  refine va_P.app (fun k q hk => ?_) (va_P_in hP (fun q h => List.mem_append_right _ (hro q h)))
  obtain ⟨i, -, h2⟩ := jn_at hC k q hk
  exact hP i q (by rw [List.getElem?_append_left (List.getElem?_eq_some_iff.mp h2).1]; exact h2)
theorem cut_F {A0 : Nat → Prop} {X TL wf wro : va_W} {H0 H : Heap} {locs : List Loc} (hD : va_D A0 (X ++ TL)) (hS : va_S A0 H0 H locs) (hA : ∀ q, H0.size ≤ q → A0 q) (is : List Nat) (hC : is.map (fun i => X[i]?) = wf.map some) (hro : ∀ q ∈ wro, q ∈ TL) : ∀ q, va_A (wf ++ wro) H.size q → A0 q := fun q h => by
  rcases h with ⟨k, e, h⟩ | h
  · rcases List.mem_append.mp (List.mem_of_getElem? h) with h | h
    · obtain ⟨j, hj⟩ := List.getElem?_of_mem h
      obtain ⟨i, -, h2⟩ := jn_at hC j _ hj
      exact hD.2 i (q, e) (by rw [List.getElem?_append_left (List.getElem?_eq_some_iff.mp h2).1]; exact h2)
    · obtain ⟨j, hj⟩ := List.getElem?_of_mem (List.mem_append_right X (hro _ h))
      exact hD.2 j (q, e) hj
  · exact hA q (Nat.le_trans hS.1 h)
theorem cut_D {A0 : Nat → Prop} {X TL wf wro : va_W} (hD : va_D A0 (X ++ TL)) (is : List Nat) (hn : va_nd is = true) (hC : is.map (fun i => X[i]?) = wf.map some) (hro : ∀ q ∈ wro, q ∈ TL) (hd : (wro.map Prod.fst).Nodup) : va_D A0 (wf ++ wro) := by
  have hX : ∀ (i : Nat) (q : Nat × va_E), X[i]? = some q → (X ++ TL)[i]? = some q := fun i q h => by
    rw [List.getElem?_append_left (List.getElem?_eq_some_iff.mp h).1]; exact h
  have hT : ∀ (i : Nat) (q : Nat × va_E), TL[i]? = some q → (X ++ TL)[X.length + i]? = some q := fun i q h => by
    rw [List.getElem?_append_right (by omega), Nat.add_sub_cancel_left]; exact h
  have hDX : va_D A0 X := ⟨fun i j p q h1 h2 h3 => hD.1 i j p q (hX i p h1) (hX j q h2) h3, fun k q h => hD.2 k q (hX k q h)⟩
  refine va_D.app (hDX.sub is hn hC) ⟨fun i j p q h1 h2 h3 => ?_, fun k q h => ?_⟩ (fun i j p q h1 h2 h3 => ?_)
  · have e1 : (wro.map Prod.fst)[i]? = some p.1 := by rw [List.getElem?_map, h1]; rfl
    have e2 : (wro.map Prod.fst)[j]? = some q.1 := by rw [List.getElem?_map, h2]; rfl
    rw [h3] at e1
    have l1 := (List.getElem?_eq_some_iff.mp e1).1
    exact (List.getElem?_inj l1 hd).mp (e1.trans e2.symm)
  · obtain ⟨j, hj⟩ := List.getElem?_of_mem (List.mem_append_right X (hro _ (List.mem_of_getElem? h)))
    exact hD.2 j q hj
  · obtain ⟨a, -, ha⟩ := jn_at hC i p h1
    obtain ⟨b, hb⟩ := List.getElem?_of_mem (hro _ (List.mem_of_getElem? h2))
    have := hD.1 a _ p q (hX a p ha) (hT b q hb) h3
    have := (List.getElem?_eq_some_iff.mp ha).1
    omega
def f_Bc_lineAt (nl : Nat) (nT : Nat → Nat) (LS : Nat → MS) (TS : Nat → MS) (FP : Nat → Bool) (FS : Nat → MS) (bc : MS) (sg : MS) (tr : MS) (tu : MS) (ff : MS) (pl : MS) (lw : MS) (p1 : Int32) : Option (Option Nat) := (if p1 < 0 then some none else (if (bc.1 1) ≤ p1 then some none else if ix p1 12 then (some (p1.toNatClampNeg) : Option Nat).bind fun i5 => if i5 < nl then some (some i5) else none else none))
def rm_Bc_lineAt : Room := { frames := 0, cells := 0, slots := 0, locals := 0 }
set_option maxHeartbeats 4000000 in
set_option maxRecDepth 100000 in
theorem m_Bc_lineAt (l : Launch) (dC : Nat → ClassId) (dI : Nat → Nat → Nat) (tC : Nat → ClassId) (TL : va_W) (nl : Nat) (hL : Nat → Nat) (adL aT : Nat → Nat → Nat) (nT : Nat → Nat) (LS TS : Nat → MS) (FP : Nat → Bool) (hF : Nat → Nat) (adF : Nat → Nat → Nat) (FS : Nat → MS) (rf : Nat → Nat → Option Nat) (h_bc : Nat) (ad_bc : Nat → Nat) (bc : MS) (ad_sg : Nat → Nat) (sg : MS) (ad_tr : Nat → Nat) (tr : MS) (ad_tu : Nat → Nat) (tu : MS) (ad_ff : Nat → Nat) (ff : MS) (ad_pl : Nat → Nat) (pl : MS) (ad_lw : Nat → Nat) (lw : MS) (p1 : Int32) (R : Option Nat) (H : Heap) (hFM : FM tC TL nl hL adL aT nT LS TS FP hF adF FS rf) (hP : va_P (dC, dI) vwCl (w_Bc_ h_bc ad_bc tC rf bc ++ (w_Sg_ (ad_bc 100) ad_sg tC sg ++ (w_Tr_ (ad_bc 104) ad_tr tC tr ++ (w_Tr_ (ad_bc 105) ad_tu tC tu ++ (w_Ff_ (ad_bc 103) ad_ff tC ff ++ (w_Pl_ (ad_bc 101) ad_pl tC pl ++ (w_Lw_ (ad_bc 102) ad_lw tC lw ++ TL))))))) H) (hf : f_Bc_lineAt nl nT LS TS FP FS bc sg tr tu ff pl lw p1 = some R) : Met l y_Bc_lineAt w_Bc_lineAt rm_Bc_lineAt (roP (dC, dI) tC H [.ref h_bc, .int p1]) (roQ H (some (va_rf (R.map hL)))) 0 0 (fun _ => False) := by
  refine Met.ofW (cc := c_Bc_lineAt) (maxL := 2) (ret := (some (.object "BarCutting$Line"))) (by decide) rfl ?_
  intro p e s m args below meth c s₁ B hml hv
  obtain ⟨hav, hH, hK⟩ := hv
  have hx := B.exec
  have hb := B.bytes
  have hr := B.returns
  have hts : ∀ w ∈ gw, w.before args s = true := fun w h => atoms_spec (ws := w_Bc_lineAt) B.pre w (List.mem_cons_of_mem _ h)
  have hown : s.vm.findClass RX8 = some m.cls := findClass_of_methodNamed B.named
  have hlocks := B.notSynchronized
  subst hH
  refine q_w (R := rm_Bc_lineAt) (fun Q hQ => ?_)
  refine en_w (av := [.ref h_bc, .int p1]) hav (Nat.le_of_ble_eq_true rfl) (fun ls hl => ?_)
  have hl : lv_has ls 2 [(0, .ref h_bc), (1, .int p1)] := hl
  unfold f_Bc_lineAt at hf
  refine lv_iload_n hx hb d_Bc_lineAt_0 rfl (lv_at hl 1 rfl) ?_
  refine lv_if_lt (tgt := 21) hx hb d_Bc_lineAt_1 (by decide) (fun c1 => ?_) (fun c1 => ?_)
  · have hf := op_t hf c1
    refine lv_null hx hb d_Bc_lineAt_21 ?_
    obtain rfl := Option.some.inj hf
    subst hQ
    exact W.aret (v := .null) (rt := .object "BarCutting$Line") hx hb hr (Or.inl ⟨_, rfl⟩) (Or.inl rfl) (fun t ht hW => ⟨rfl, ht⟩) (fun q h => by cases h) d_Bc_lineAt_22
  · have hf := op_e hf c1
    refine lv_iload_n hx hb d_Bc_lineAt_4 rfl (lv_at hl 1 rfl) ?_
    refine lv_aload_n hx hb d_Bc_lineAt_5 rfl (lv_at hl 0 rfl) ?_
    refine va_get (D := (dC, dI)) (ci := 8) (v := .int (bc.1 1)) (C := RX8) (T := TX8) (N := 12) hx hb hts in_X8 hown hK hP 0 rfl rfl 11 (by decide) (hts _ kF_8_73) (fun _ h9 => h9) rfl d_Bc_lineAt_6 ?_
    refine lv_icmp_ge (tgt := 21) hx hb d_Bc_lineAt_9 (by decide) (fun c2 => ?_) (fun c2 => ?_)
    · have hf := op_t hf c2
      refine lv_null hx hb d_Bc_lineAt_21 ?_
      obtain rfl := Option.some.inj hf
      subst hQ
      exact W.aret (v := .null) (rt := .object "BarCutting$Line") hx hb hr (Or.inl ⟨_, rfl⟩) (Or.inl rfl) (fun t ht hW => ⟨rfl, ht⟩) (fun q h => by cases h) d_Bc_lineAt_22
    · have hf := op_e hf c2
      refine lv_aload_n hx hb d_Bc_lineAt_12 rfl (lv_at hl 0 rfl) ?_
      refine va_get (D := (dC, dI)) (ci := 8) (v := .ref (ad_bc 1)) (C := RX8) (T := TX8) (N := 12) hx hb hts in_X8 hown hK hP 0 rfl rfl 2 (by decide) (hts _ kF_8_24) (fun _ h9 => h9) rfl d_Bc_lineAt_13 ?_
      refine lv_iload_n hx hb d_Bc_lineAt_16 rfl (lv_at hl 1 rfl) ?_
      obtain ⟨hi3, hf⟩ := op_if hf
      refine va_aldq (f := rf 1) hx hb hK hP 2 5 rfl rfl (ix_in hi3) d_Bc_lineAt_17 ?_
      obtain ⟨i5, hi5, hf⟩ := op_b hf
      obtain ⟨hg4, hf⟩ := op_if hf
      refine rw_s (a := hL i5) (by rw [Option.some.inj hi5]; exact hFM.2.2.1 _ hg4) ?_
      refine lv_goto (tgt := 22) hx hb d_Bc_lineAt_18 (by decide) ?_
      obtain rfl := Option.some.inj hf
      subst hQ
      exact W.aret (v := .ref (hL i5)) (rt := .object "BarCutting$Line") hx hb hr (Or.inl ⟨_, rfl⟩) (Or.inr ⟨_, rfl⟩) (fun t ht hW => ⟨rfl, ht⟩) (fun q h => by cases h) d_Bc_lineAt_22
theorem lineAt_lt {nl : Nat} {nT : Nat → Nat} {LS TS : Nat → MS} {FP : Nat → Bool} {FS : Nat → MS} {bc sg pl lw ff tr tu : MS} {p1 : Int32} {q : Option Nat} (h : f_Bc_lineAt nl nT LS TS FP FS bc sg tr tu ff pl lw p1 = some q) : ∀ i, q = some i → i < nl := by
  intro i hi
  subst hi
  unfold f_Bc_lineAt at h
  split at h
  · cases h
  · split at h
    · cases h
    · obtain ⟨-, h⟩ := op_if h
      obtain ⟨i5, -, h⟩ := op_b h
      obtain ⟨h1, h⟩ := op_if h
      obtain rfl := Option.some.inj (Option.some.inj h)
      exact h1
def f_Bc_cutLength (nl : Nat) (nT : Nat → Nat) (LS : Nat → MS) (TS : Nat → MS) (FP : Nat → Bool) (FS : Nat → MS) (bc : MS) (sg : MS) (tr : MS) (tu : MS) (ff : MS) (pl : MS) (lw : MS) (p1 : Nat) : Option (Int32) := if ix (((LS p1).1 1) - 4) 37 then (some (((bc.2.1 0) (((LS p1).1 1) - 4).toNatClampNeg) * ((TS p1).1 1)) : Option Int32).bind fun v5 => (f_Ln_sumOfLegs (LS p1)).bind fun q6 => some (if 0 < (q6 - v5) then (q6 - v5) else 0) else none
def rm_Bc_cutLength : Room := { frames := 1, cells := 0, slots := 0, locals := 30 }
set_option maxHeartbeats 4000000 in
set_option maxRecDepth 100000 in
theorem m_Bc_cutLength (l : Launch) (dC : Nat → ClassId) (dI : Nat → Nat → Nat) (tC : Nat → ClassId) (TL : va_W) (nl : Nat) (hL : Nat → Nat) (adL aT : Nat → Nat → Nat) (nT : Nat → Nat) (LS TS : Nat → MS) (FP : Nat → Bool) (hF : Nat → Nat) (adF : Nat → Nat → Nat) (FS : Nat → MS) (rf : Nat → Nat → Option Nat) (h_bc : Nat) (ad_bc : Nat → Nat) (bc : MS) (ad_sg : Nat → Nat) (sg : MS) (ad_tr : Nat → Nat) (tr : MS) (ad_tu : Nat → Nat) (tu : MS) (ad_ff : Nat → Nat) (ff : MS) (ad_pl : Nat → Nat) (pl : MS) (ad_lw : Nat → Nat) (lw : MS) (p1 : Nat) (hp1 : p1 < nl) (R : Int32) (H : Heap) (hFM : FM tC TL nl hL adL aT nT LS TS FP hF adF FS rf) (hP : va_P (dC, dI) vwCl (w_Bc_ h_bc ad_bc tC rf bc ++ (w_Sg_ (ad_bc 100) ad_sg tC sg ++ (w_Tr_ (ad_bc 104) ad_tr tC tr ++ (w_Tr_ (ad_bc 105) ad_tu tC tu ++ (w_Ff_ (ad_bc 103) ad_ff tC ff ++ (w_Pl_ (ad_bc 101) ad_pl tC pl ++ (w_Lw_ (ad_bc 102) ad_lw tC lw ++ TL))))))) H) (hf : f_Bc_cutLength nl nT LS TS FP FS bc sg tr tu ff pl lw p1 = some R) : Met l y_Bc_cutLength w_Bc_cutLength rm_Bc_cutLength (roP (dC, dI) tC H [.ref h_bc, .ref (hL p1)]) (roQ H (some (.int R))) 0 0 (fun _ => False) := by
  refine Met.ofW (cc := c_Bc_cutLength) (maxL := 3) (ret := (some (.int))) (by decide) rfl ?_
  intro p e s m args below meth c s₁ B hml hv
  obtain ⟨hav, hH, hK⟩ := hv
  have hx := B.exec
  have hb := B.bytes
  have hr := B.returns
  have hts : ∀ w ∈ gw, w.before args s = true := fun w h => atoms_spec (ws := w_Bc_cutLength) B.pre w (List.mem_cons_of_mem _ h)
  have hown : s.vm.findClass RX8 = some m.cls := findClass_of_methodNamed B.named
  have hlocks := B.notSynchronized
  subst hH
  refine q_w (R := rm_Bc_cutLength) (fun Q hQ => ?_)
  refine en_w (av := [.ref h_bc, .ref (hL p1)]) hav (Nat.le_of_ble_eq_true rfl) (fun ls hl => ?_)
  have hl : lv_has ls 3 [(0, .ref h_bc), (1, .ref (hL p1))] := hl
  unfold f_Bc_cutLength at hf
  refine lv_aload_n hx hb d_Bc_cutLength_0 rfl (lv_at hl 0 rfl) ?_
  refine va_get (D := (dC, dI)) (ci := 8) (v := .ref (ad_bc 2)) (C := RX8) (T := TX8) (N := 12) hx hb hts in_X8 hown hK hP 0 rfl rfl 3 (by decide) (hts _ kF_8_28) (fun _ h9 => h9) rfl d_Bc_cutLength_1 ?_
  refine lv_aload_n hx hb d_Bc_cutLength_4 rfl (lv_at hl 1 rfl) ?_
  obtain ⟨k1, hk1⟩ := List.getElem?_of_mem (List.mem_append_right _ (List.mem_append_right _ (List.mem_append_right _ (List.mem_append_right _ (List.mem_append_right _ (List.mem_append_right _ (List.mem_append_right _ ((hFM.1 p1 hp1) _ (List.mem_of_getElem? (i := 0) rfl)))))))))
  refine va_get (D := (dC, dI)) (ci := 2) (v := .int ((LS p1).1 1)) (C := RX2) (T := TX2) (N := 9) hx hb hts in_X2 hown hK hP k1 hk1 rfl 2 (by decide) (hts _ kF_8_129) (fun _ h9 => h9) rfl d_Bc_cutLength_5 ?_
  refine lv_iconst (v := 4) hx hb d_Bc_cutLength_8 (by decide) ?_
  refine lv_isub hx hb d_Bc_cutLength_9 ?_
  obtain ⟨hi2, hf⟩ := op_if hf
  refine va_iald (f := bc.2.1 0) hx hb hK hP 3 0 rfl rfl (ix_in hi2) d_Bc_cutLength_10 ?_
  refine lv_aload_n hx hb d_Bc_cutLength_11 rfl (lv_at hl 1 rfl) ?_
  obtain ⟨k3, hk3⟩ := List.getElem?_of_mem (List.mem_append_right _ (List.mem_append_right _ (List.mem_append_right _ (List.mem_append_right _ (List.mem_append_right _ (List.mem_append_right _ (List.mem_append_right _ ((hFM.1 p1 hp1) _ (List.mem_of_getElem? (i := 0) rfl)))))))))
  refine va_get (D := (dC, dI)) (ci := 2) (v := .ref (adL p1 100)) (C := RX2) (T := TX2) (N := 9) hx hb hts in_X2 hown hK hP k3 hk3 rfl 1 (by decide) (hts _ kF_8_106) (fun _ h9 => h9) rfl d_Bc_cutLength_12 ?_
  obtain ⟨k4, hk4⟩ := List.getElem?_of_mem (List.mem_append_right _ (List.mem_append_right _ (List.mem_append_right _ (List.mem_append_right _ (List.mem_append_right _ (List.mem_append_right _ (List.mem_append_right _ ((hFM.2.1 p1 hp1) _ (List.mem_of_getElem? (i := 0) rfl)))))))))
  refine va_get (D := (dC, dI)) (ci := 4) (v := .int ((TS p1).1 1)) (C := RX4) (T := TX4) (N := 3) hx hb hts in_X4 hown hK hP k4 hk4 rfl 2 (by decide) (hts _ kF_8_239) (fun _ h9 => h9) rfl d_Bc_cutLength_15 ?_
  refine lv_imul hx hb d_Bc_cutLength_18 ?_
  obtain ⟨v5, hv5, hf⟩ := op_b hf
  refine rw_i (y := v5) (Option.some.inj hv5) ?_
  refine lv_istore_n (lv' := [(2, .int v5), (0, .ref h_bc), (1, .ref (hL p1))]) hx hb d_Bc_cutLength_19 rfl hl (by decide) rfl (fun ls hl => ?_)
  refine lv_iconst (v := 0) hx hb d_Bc_cutLength_20 (by decide) ?_
  refine lv_aload_n hx hb d_Bc_cutLength_21 rfl (lv_at hl 2 rfl) ?_
  obtain ⟨q6, hq6, hf⟩ := op_b hf
  obtain ⟨k7, hk7⟩ := List.getElem?_of_mem (List.mem_append_right _ (List.mem_append_right _ (List.mem_append_right _ (List.mem_append_right _ (List.mem_append_right _ (List.mem_append_right _ (List.mem_append_right _ ((hFM.1 p1 hp1) _ (List.mem_of_getElem? (i := 0) rfl)))))))))
  refine ro_go rfl (va_runV (As := []) (rest := [.int 0]) ⟨hx, hb, hml, hown, hts⟩ (m_Ln_sumOfLegs l dC dI tC (hL p1) (adL p1) (LS p1) q6 _ (va_P_in hP (fun q h => (List.mem_append_right _ (List.mem_append_right _ (List.mem_append_right _ (List.mem_append_right _ (List.mem_append_right _ (List.mem_append_right _ (List.mem_append_right _ ((hFM.1 p1 hp1) q h)))))))))) hq6) (cwV 0 hts (gd_V kM_8_126 kI_Ln_sumOfLegs kV_Ln_sumOfLegs kZ_2 kC_Ln_sumOfLegs) rfl rfl rfl (by decide +kernel) ⟨(Nat.le_of_ble_eq_true rfl), (Nat.le_of_ble_eq_true rfl)⟩) ⟨ro_blind, va_recv hK hP (ci := 2) (q0 := k7) rfl hk7, ro_pre hK⟩ rfl rfl hl.1 rfl (lv_room (Nat.le_of_ble_eq_true rfl)) d_Bc_cutLength_22 ⟨(Nat.le_of_ble_eq_true rfl), (Nat.le_of_ble_eq_true rfl)⟩) ?_
  refine W.eq (g2 := F0 m 25 ls [.int q6, .int 0]) rfl ?_
  refine lv_iload_n hx hb d_Bc_cutLength_25 rfl (lv_at hl 0 rfl) ?_
  refine lv_isub hx hb d_Bc_cutLength_26 ?_
  refine va_mmax hx hb (hml.trans hl.1.symm) hown (hts _ kM_8_242) (hts _ kS_max) (hts _ kZ_Math) (hts _ kC_max) (Nat.le_of_ble_eq_true rfl) (Nat.le_of_ble_eq_true rfl) (Nat.le_of_ble_eq_true rfl) (Nat.le_of_ble_eq_true rfl) d_Bc_cutLength_27 ?_
  obtain rfl := Option.some.inj hf
  subst hQ
  exact W.iret (v := if 0 < (q6 - v5) then (q6 - v5) else 0) hx hb hr (fun t ht hW => ⟨rfl, ht⟩) (fun q h => by cases h) d_Bc_cutLength_30
def f_Bc_isBentBefore (nl : Nat) (nT : Nat → Nat) (LS : Nat → MS) (TS : Nat → MS) (FP : Nat → Bool) (FS : Nat → MS) (bc : MS) (sg : MS) (tr : MS) (tu : MS) (ff : MS) (pl : MS) (lw : MS) (p1 : Int32) (p2 : Int32) : Option (Int32) := if ix p1 12 then (some (p1.toNatClampNeg) : Option Nat).bind fun i3 => if i3 < nl then if ix p2 12 then (some (p2.toNatClampNeg) : Option Nat).bind fun i6 => if i6 < nl then (if ((LS i3).1 1) = ((LS i6).1 1) then (if ((LS i3).1 0) = ((LS i6).1 0) then (if p2 ≤ p1 then some 0 else some 1) else (if ((LS i6).1 0) ≤ ((LS i3).1 0) then some 0 else some 1)) else (if ((LS i6).1 1) ≤ ((LS i3).1 1) then some 0 else some 1)) else none else none else none else none
def rm_Bc_isBentBefore : Room := { frames := 0, cells := 0, slots := 0, locals := 0 }
set_option maxHeartbeats 4000000 in
set_option maxRecDepth 100000 in
theorem m_Bc_isBentBefore (l : Launch) (dC : Nat → ClassId) (dI : Nat → Nat → Nat) (tC : Nat → ClassId) (TL : va_W) (nl : Nat) (hL : Nat → Nat) (adL aT : Nat → Nat → Nat) (nT : Nat → Nat) (LS TS : Nat → MS) (FP : Nat → Bool) (hF : Nat → Nat) (adF : Nat → Nat → Nat) (FS : Nat → MS) (rf : Nat → Nat → Option Nat) (h_bc : Nat) (ad_bc : Nat → Nat) (bc : MS) (ad_sg : Nat → Nat) (sg : MS) (ad_tr : Nat → Nat) (tr : MS) (ad_tu : Nat → Nat) (tu : MS) (ad_ff : Nat → Nat) (ff : MS) (ad_pl : Nat → Nat) (pl : MS) (ad_lw : Nat → Nat) (lw : MS) (p1 : Int32) (p2 : Int32) (R : Int32) (H : Heap) (hFM : FM tC TL nl hL adL aT nT LS TS FP hF adF FS rf) (hP : va_P (dC, dI) vwCl (w_Bc_ h_bc ad_bc tC rf bc ++ (w_Sg_ (ad_bc 100) ad_sg tC sg ++ (w_Tr_ (ad_bc 104) ad_tr tC tr ++ (w_Tr_ (ad_bc 105) ad_tu tC tu ++ (w_Ff_ (ad_bc 103) ad_ff tC ff ++ (w_Pl_ (ad_bc 101) ad_pl tC pl ++ (w_Lw_ (ad_bc 102) ad_lw tC lw ++ TL))))))) H) (hf : f_Bc_isBentBefore nl nT LS TS FP FS bc sg tr tu ff pl lw p1 p2 = some R) : Met l y_Bc_isBentBefore w_Bc_isBentBefore rm_Bc_isBentBefore (roP (dC, dI) tC H [.ref h_bc, .int p1, .int p2]) (roQ H (some (.int R))) 0 0 (fun _ => False) := by
  refine Met.ofW (cc := c_Bc_isBentBefore) (maxL := 5) (ret := (some (.boolean))) (by decide) rfl ?_
  intro p e s m args below meth c s₁ B hml hv
  obtain ⟨hav, hH, hK⟩ := hv
  have hx := B.exec
  have hb := B.bytes
  have hr := B.returns
  have hts : ∀ w ∈ gw, w.before args s = true := fun w h => atoms_spec (ws := w_Bc_isBentBefore) B.pre w (List.mem_cons_of_mem _ h)
  have hown : s.vm.findClass RX8 = some m.cls := findClass_of_methodNamed B.named
  have hlocks := B.notSynchronized
  subst hH
  refine q_w (R := rm_Bc_isBentBefore) (fun Q hQ => ?_)
  refine en_w (av := [.ref h_bc, .int p1, .int p2]) hav (Nat.le_of_ble_eq_true rfl) (fun ls hl => ?_)
  have hl : lv_has ls 5 [(0, .ref h_bc), (1, .int p1), (2, .int p2)] := hl
  unfold f_Bc_isBentBefore at hf
  refine lv_aload_n hx hb d_Bc_isBentBefore_0 rfl (lv_at hl 0 rfl) ?_
  refine va_get (D := (dC, dI)) (ci := 8) (v := .ref (ad_bc 1)) (C := RX8) (T := TX8) (N := 12) hx hb hts in_X8 hown hK hP 0 rfl rfl 2 (by decide) (hts _ kF_8_24) (fun _ h9 => h9) rfl d_Bc_isBentBefore_1 ?_
  refine lv_iload_n hx hb d_Bc_isBentBefore_4 rfl (lv_at hl 1 rfl) ?_
  obtain ⟨hi1, hf⟩ := op_if hf
  refine va_aldq (f := rf 1) hx hb hK hP 2 5 rfl rfl (ix_in hi1) d_Bc_isBentBefore_5 ?_
  obtain ⟨i3, hi3, hf⟩ := op_b hf
  obtain ⟨hg2, hf⟩ := op_if hf
  refine rw_s (a := hL i3) (by rw [Option.some.inj hi3]; exact hFM.2.2.1 _ hg2) ?_
  refine lv_astore_n (lv' := [(3, .ref (hL i3)), (0, .ref h_bc), (1, .int p1), (2, .int p2)]) hx hb d_Bc_isBentBefore_6 rfl hl (by decide) rfl (fun ls hl => ?_)
  refine lv_aload_n hx hb d_Bc_isBentBefore_7 rfl (lv_at hl 1 rfl) ?_
  refine va_get (D := (dC, dI)) (ci := 8) (v := .ref (ad_bc 1)) (C := RX8) (T := TX8) (N := 12) hx hb hts in_X8 hown hK hP 0 rfl rfl 2 (by decide) (hts _ kF_8_24) (fun _ h9 => h9) rfl d_Bc_isBentBefore_8 ?_
  refine lv_iload_n hx hb d_Bc_isBentBefore_11 rfl (lv_at hl 3 rfl) ?_
  obtain ⟨hi4, hf⟩ := op_if hf
  refine va_aldq (f := rf 1) hx hb hK hP 2 5 rfl rfl (ix_in hi4) d_Bc_isBentBefore_12 ?_
  obtain ⟨i6, hi6, hf⟩ := op_b hf
  obtain ⟨hg5, hf⟩ := op_if hf
  refine rw_s (a := hL i6) (by rw [Option.some.inj hi6]; exact hFM.2.2.1 _ hg5) ?_
  refine lv_astore (lv' := [(4, .ref (hL i6)), (3, .ref (hL i3)), (0, .ref h_bc), (1, .int p1), (2, .int p2)]) hx hb d_Bc_isBentBefore_13 hl (by decide) rfl (fun ls hl => ?_)
  refine lv_aload_n hx hb d_Bc_isBentBefore_15 rfl (lv_at hl 1 rfl) ?_
  obtain ⟨k7, hk7⟩ := List.getElem?_of_mem (List.mem_append_right _ (List.mem_append_right _ (List.mem_append_right _ (List.mem_append_right _ (List.mem_append_right _ (List.mem_append_right _ (List.mem_append_right _ ((hFM.1 i3 hg2) _ (List.mem_of_getElem? (i := 0) rfl)))))))))
  refine va_get (D := (dC, dI)) (ci := 2) (v := .int ((LS i3).1 1)) (C := RX2) (T := TX2) (N := 9) hx hb hts in_X2 hown hK hP k7 hk7 rfl 2 (by decide) (hts _ kF_8_129) (fun _ h9 => h9) rfl d_Bc_isBentBefore_16 ?_
  refine lv_aload hx hb d_Bc_isBentBefore_19 (lv_at hl 0 rfl) ?_
  obtain ⟨k8, hk8⟩ := List.getElem?_of_mem (List.mem_append_right _ (List.mem_append_right _ (List.mem_append_right _ (List.mem_append_right _ (List.mem_append_right _ (List.mem_append_right _ (List.mem_append_right _ ((hFM.1 i6 hg5) _ (List.mem_of_getElem? (i := 0) rfl)))))))))
  refine va_get (D := (dC, dI)) (ci := 2) (v := .int ((LS i6).1 1)) (C := RX2) (T := TX2) (N := 9) hx hb hts in_X2 hown hK hP k8 hk8 rfl 2 (by decide) (hts _ kF_8_129) (fun _ h9 => h9) rfl d_Bc_isBentBefore_21 ?_
  refine lv_icmp_eq (tgt := 45) hx hb d_Bc_isBentBefore_24 (by decide) (fun c9 => ?_) (fun c9 => ?_)
  · have hf := op_t hf c9
    refine lv_aload_n hx hb d_Bc_isBentBefore_45 rfl (lv_at hl 1 rfl) ?_
    obtain ⟨k10, hk10⟩ := List.getElem?_of_mem (List.mem_append_right _ (List.mem_append_right _ (List.mem_append_right _ (List.mem_append_right _ (List.mem_append_right _ (List.mem_append_right _ (List.mem_append_right _ ((hFM.1 i3 hg2) _ (List.mem_of_getElem? (i := 0) rfl)))))))))
    refine va_get (D := (dC, dI)) (ci := 2) (v := .int ((LS i3).1 0)) (C := RX2) (T := TX2) (N := 9) hx hb hts in_X2 hown hK hP k10 hk10 rfl 0 (by decide) (hts _ kF_8_132) (fun _ h9 => h9) rfl d_Bc_isBentBefore_46 ?_
    refine lv_aload hx hb d_Bc_isBentBefore_49 (lv_at hl 0 rfl) ?_
    obtain ⟨k11, hk11⟩ := List.getElem?_of_mem (List.mem_append_right _ (List.mem_append_right _ (List.mem_append_right _ (List.mem_append_right _ (List.mem_append_right _ (List.mem_append_right _ (List.mem_append_right _ ((hFM.1 i6 hg5) _ (List.mem_of_getElem? (i := 0) rfl)))))))))
    refine va_get (D := (dC, dI)) (ci := 2) (v := .int ((LS i6).1 0)) (C := RX2) (T := TX2) (N := 9) hx hb hts in_X2 hown hK hP k11 hk11 rfl 0 (by decide) (hts _ kF_8_132) (fun _ h9 => h9) rfl d_Bc_isBentBefore_51 ?_
    refine lv_icmp_eq (tgt := 75) hx hb d_Bc_isBentBefore_54 (by decide) (fun c12 => ?_) (fun c12 => ?_)
    · have hf := op_t hf c12
      refine lv_iload_n hx hb d_Bc_isBentBefore_75 rfl (lv_at hl 3 rfl) ?_
      refine lv_iload_n hx hb d_Bc_isBentBefore_76 rfl (lv_at hl 4 rfl) ?_
      refine lv_icmp_ge (tgt := 84) hx hb d_Bc_isBentBefore_77 (by decide) (fun c13 => ?_) (fun c13 => ?_)
      · have hf := op_t hf c13
        refine lv_iconst (v := 0) hx hb d_Bc_isBentBefore_84 (by decide) ?_
        obtain rfl := Option.some.inj hf
        subst hQ
        exact W.zret (v := 0) (ty := .boolean) hx hb hr (by decide) (fun t ht hW => ⟨rfl, ht⟩) (fun q h => by cases h) d_Bc_isBentBefore_85
      · have hf := op_e hf c13
        refine lv_iconst (v := 1) hx hb d_Bc_isBentBefore_80 (by decide) ?_
        refine lv_goto (tgt := 85) hx hb d_Bc_isBentBefore_81 (by decide) ?_
        obtain rfl := Option.some.inj hf
        subst hQ
        exact W.zret (v := 1) (ty := .boolean) hx hb hr (by decide) (fun t ht hW => ⟨rfl, ht⟩) (fun q h => by cases h) d_Bc_isBentBefore_85
    · have hf := op_e hf c12
      refine lv_aload_n hx hb d_Bc_isBentBefore_57 rfl (lv_at hl 1 rfl) ?_
      obtain ⟨k14, hk14⟩ := List.getElem?_of_mem (List.mem_append_right _ (List.mem_append_right _ (List.mem_append_right _ (List.mem_append_right _ (List.mem_append_right _ (List.mem_append_right _ (List.mem_append_right _ ((hFM.1 i3 hg2) _ (List.mem_of_getElem? (i := 0) rfl)))))))))
      refine va_get (D := (dC, dI)) (ci := 2) (v := .int ((LS i3).1 0)) (C := RX2) (T := TX2) (N := 9) hx hb hts in_X2 hown hK hP k14 hk14 rfl 0 (by decide) (hts _ kF_8_132) (fun _ h9 => h9) rfl d_Bc_isBentBefore_58 ?_
      refine lv_aload hx hb d_Bc_isBentBefore_61 (lv_at hl 0 rfl) ?_
      obtain ⟨k15, hk15⟩ := List.getElem?_of_mem (List.mem_append_right _ (List.mem_append_right _ (List.mem_append_right _ (List.mem_append_right _ (List.mem_append_right _ (List.mem_append_right _ (List.mem_append_right _ ((hFM.1 i6 hg5) _ (List.mem_of_getElem? (i := 0) rfl)))))))))
      refine va_get (D := (dC, dI)) (ci := 2) (v := .int ((LS i6).1 0)) (C := RX2) (T := TX2) (N := 9) hx hb hts in_X2 hown hK hP k15 hk15 rfl 0 (by decide) (hts _ kF_8_132) (fun _ h9 => h9) rfl d_Bc_isBentBefore_63 ?_
      refine lv_icmp_ge (tgt := 73) hx hb d_Bc_isBentBefore_66 (by decide) (fun c16 => ?_) (fun c16 => ?_)
      · have hf := op_t hf c16
        refine lv_iconst (v := 0) hx hb d_Bc_isBentBefore_73 (by decide) ?_
        obtain rfl := Option.some.inj hf
        subst hQ
        exact W.zret (v := 0) (ty := .boolean) hx hb hr (by decide) (fun t ht hW => ⟨rfl, ht⟩) (fun q h => by cases h) d_Bc_isBentBefore_74
      · have hf := op_e hf c16
        refine lv_iconst (v := 1) hx hb d_Bc_isBentBefore_69 (by decide) ?_
        refine lv_goto (tgt := 74) hx hb d_Bc_isBentBefore_70 (by decide) ?_
        obtain rfl := Option.some.inj hf
        subst hQ
        exact W.zret (v := 1) (ty := .boolean) hx hb hr (by decide) (fun t ht hW => ⟨rfl, ht⟩) (fun q h => by cases h) d_Bc_isBentBefore_74
  · have hf := op_e hf c9
    refine lv_aload_n hx hb d_Bc_isBentBefore_27 rfl (lv_at hl 1 rfl) ?_
    obtain ⟨k17, hk17⟩ := List.getElem?_of_mem (List.mem_append_right _ (List.mem_append_right _ (List.mem_append_right _ (List.mem_append_right _ (List.mem_append_right _ (List.mem_append_right _ (List.mem_append_right _ ((hFM.1 i3 hg2) _ (List.mem_of_getElem? (i := 0) rfl)))))))))
    refine va_get (D := (dC, dI)) (ci := 2) (v := .int ((LS i3).1 1)) (C := RX2) (T := TX2) (N := 9) hx hb hts in_X2 hown hK hP k17 hk17 rfl 2 (by decide) (hts _ kF_8_129) (fun _ h9 => h9) rfl d_Bc_isBentBefore_28 ?_
    refine lv_aload hx hb d_Bc_isBentBefore_31 (lv_at hl 0 rfl) ?_
    obtain ⟨k18, hk18⟩ := List.getElem?_of_mem (List.mem_append_right _ (List.mem_append_right _ (List.mem_append_right _ (List.mem_append_right _ (List.mem_append_right _ (List.mem_append_right _ (List.mem_append_right _ ((hFM.1 i6 hg5) _ (List.mem_of_getElem? (i := 0) rfl)))))))))
    refine va_get (D := (dC, dI)) (ci := 2) (v := .int ((LS i6).1 1)) (C := RX2) (T := TX2) (N := 9) hx hb hts in_X2 hown hK hP k18 hk18 rfl 2 (by decide) (hts _ kF_8_129) (fun _ h9 => h9) rfl d_Bc_isBentBefore_33 ?_
    refine lv_icmp_ge (tgt := 43) hx hb d_Bc_isBentBefore_36 (by decide) (fun c19 => ?_) (fun c19 => ?_)
    · have hf := op_t hf c19
      refine lv_iconst (v := 0) hx hb d_Bc_isBentBefore_43 (by decide) ?_
      obtain rfl := Option.some.inj hf
      subst hQ
      exact W.zret (v := 0) (ty := .boolean) hx hb hr (by decide) (fun t ht hW => ⟨rfl, ht⟩) (fun q h => by cases h) d_Bc_isBentBefore_44
    · have hf := op_e hf c19
      refine lv_iconst (v := 1) hx hb d_Bc_isBentBefore_39 (by decide) ?_
      refine lv_goto (tgt := 44) hx hb d_Bc_isBentBefore_40 (by decide) ?_
      obtain rfl := Option.some.inj hf
      subst hQ
      exact W.zret (v := 1) (ty := .boolean) hx hb hr (by decide) (fun t ht hW => ⟨rfl, ht⟩) (fun q h => by cases h) d_Bc_isBentBefore_44
def l_Bc_linesBentBefore_4 : Nat → Int32 → Int32 → Int32 → Nat → (Nat → Nat) → (Nat → MS) → (Nat → MS) → (Nat → Bool) → (Nat → MS) → MS → MS → MS → MS → MS → MS → MS → Option (Int32 × Int32)
  | 0, _, _, _, _, _, _, _, _, _, _, _, _, _, _, _, _ => none
  | n + 1, x1, x2, x3, nl, nT, LS, TS, FP, FS, bc, sg, tr, tu, ff, pl, lw => (if (bc.1 1) ≤ x3 then some (x2, x3) else (f_Bc_isBentBefore nl nT LS TS FP FS bc sg tr tu ff pl lw x3 x1).bind fun q3 => (if q3 = 0 then l_Bc_linesBentBefore_4 n x1 x2 (x3 + 1) nl nT LS TS FP FS bc sg tr tu ff pl lw else l_Bc_linesBentBefore_4 n x1 (x2 + 1) (x3 + 1) nl nT LS TS FP FS bc sg tr tu ff pl lw))
def f_Bc_linesBentBefore (nl : Nat) (nT : Nat → Nat) (LS : Nat → MS) (TS : Nat → MS) (FP : Nat → Bool) (FS : Nat → MS) (bc : MS) (sg : MS) (tr : MS) (tu : MS) (ff : MS) (pl : MS) (lw : MS) (p1 : Int32) : Option (Int32) := (l_Bc_linesBentBefore_4 fu p1 0 0 nl nT LS TS FP FS bc sg tr tu ff pl lw).bind fun q1 => some q1.1
def rm_Bc_linesBentBefore : Room := { frames := 1, cells := 0, slots := 0, locals := 24 }
set_option maxHeartbeats 4000000 in
set_option maxRecDepth 100000 in
theorem m_Bc_linesBentBefore (l : Launch) (dC : Nat → ClassId) (dI : Nat → Nat → Nat) (tC : Nat → ClassId) (TL : va_W) (nl : Nat) (hL : Nat → Nat) (adL aT : Nat → Nat → Nat) (nT : Nat → Nat) (LS TS : Nat → MS) (FP : Nat → Bool) (hF : Nat → Nat) (adF : Nat → Nat → Nat) (FS : Nat → MS) (rf : Nat → Nat → Option Nat) (h_bc : Nat) (ad_bc : Nat → Nat) (bc : MS) (ad_sg : Nat → Nat) (sg : MS) (ad_tr : Nat → Nat) (tr : MS) (ad_tu : Nat → Nat) (tu : MS) (ad_ff : Nat → Nat) (ff : MS) (ad_pl : Nat → Nat) (pl : MS) (ad_lw : Nat → Nat) (lw : MS) (p1 : Int32) (R : Int32) (H : Heap) (hFM : FM tC TL nl hL adL aT nT LS TS FP hF adF FS rf) (hP : va_P (dC, dI) vwCl (w_Bc_ h_bc ad_bc tC rf bc ++ (w_Sg_ (ad_bc 100) ad_sg tC sg ++ (w_Tr_ (ad_bc 104) ad_tr tC tr ++ (w_Tr_ (ad_bc 105) ad_tu tC tu ++ (w_Ff_ (ad_bc 103) ad_ff tC ff ++ (w_Pl_ (ad_bc 101) ad_pl tC pl ++ (w_Lw_ (ad_bc 102) ad_lw tC lw ++ TL))))))) H) (hf : f_Bc_linesBentBefore nl nT LS TS FP FS bc sg tr tu ff pl lw p1 = some R) : Met l y_Bc_linesBentBefore w_Bc_linesBentBefore rm_Bc_linesBentBefore (roP (dC, dI) tC H [.ref h_bc, .int p1]) (roQ H (some (.int R))) 0 0 (fun _ => False) := by
  refine Met.ofW (cc := c_Bc_linesBentBefore) (maxL := 4) (ret := (some (.int))) (by decide) rfl ?_
  intro p e s m args below meth c s₁ B hml hv
  obtain ⟨hav, hH, hK⟩ := hv
  have hx := B.exec
  have hb := B.bytes
  have hr := B.returns
  have hts : ∀ w ∈ gw, w.before args s = true := fun w h => atoms_spec (ws := w_Bc_linesBentBefore) B.pre w (List.mem_cons_of_mem _ h)
  have hown : s.vm.findClass RX8 = some m.cls := findClass_of_methodNamed B.named
  have hlocks := B.notSynchronized
  subst hH
  refine q_w (R := rm_Bc_linesBentBefore) (fun Q hQ => ?_)
  refine en_w (av := [.ref h_bc, .int p1]) hav (Nat.le_of_ble_eq_true rfl) (fun ls hl => ?_)
  have hl : lv_has ls 4 [(0, .ref h_bc), (1, .int p1)] := hl
  unfold f_Bc_linesBentBefore at hf
  refine lv_iconst (v := 0) hx hb d_Bc_linesBentBefore_0 (by decide) ?_
  refine lv_istore_n (lv' := [(2, .int 0), (0, .ref h_bc), (1, .int p1)]) hx hb d_Bc_linesBentBefore_1 rfl hl (by decide) rfl (fun ls hl => ?_)
  refine lv_iconst (v := 0) hx hb d_Bc_linesBentBefore_2 (by decide) ?_
  refine lv_istore_n (lv' := [(3, .int 0), (2, .int 0), (0, .ref h_bc), (1, .int p1)]) hx hb d_Bc_linesBentBefore_3 rfl hl (by decide) rfl (fun ls hl => ?_)
  have lp_4 : ∀ (n : Nat) (x1 : Int32) (x2 : Int32) (x3 : Int32) (Rl : Int32 × Int32), l_Bc_linesBentBefore_4 n x1 x2 x3 nl nT LS TS FP FS bc sg tr tu ff pl lw = some Rl → ∀ ls : Array Slot, lv_has ls 4 [(3, .int x3), (2, .int x2), (0, .ref h_bc), (1, .int x1)] → (∀ ls : Array Slot, lv_has ls 4 [(3, .int Rl.2), (2, .int Rl.1), (0, .ref h_bc), (1, .int x1)] → W p l e rm_Bc_linesBentBefore s m args below meth c s.heap [] 0 0 Q (F0 m 30 ls [])) → W p l e rm_Bc_linesBentBefore s m args below meth c s.heap [] 0 0 Q (F0 m 4 ls []) := by
    intro n
    induction n with
    | zero => intro x1 x2 x3 Rl hf; cases hf
    | succ n ih_4 =>
      intro x1 x2 x3 Rl hf ls hl Kk
      rw [l_Bc_linesBentBefore_4] at hf
      refine lv_iload_n hx hb d_Bc_linesBentBefore_4 rfl (lv_at hl 0 rfl) ?_
      refine lv_aload_n hx hb d_Bc_linesBentBefore_5 rfl (lv_at hl 2 rfl) ?_
      refine va_get (D := (dC, dI)) (ci := 8) (v := .int (bc.1 1)) (C := RX8) (T := TX8) (N := 12) hx hb hts in_X8 hown hK hP 0 rfl rfl 11 (by decide) (hts _ kF_8_73) (fun _ h9 => h9) rfl d_Bc_linesBentBefore_6 ?_
      refine lv_icmp_ge (tgt := 30) hx hb d_Bc_linesBentBefore_9 (by decide) (fun c2 => ?_) (fun c2 => ?_)
      · have hf := op_t hf c2
        obtain rfl := Option.some.inj hf
        exact Kk _ (lv_sub hl [0, 1, 2, 3] rfl)
      · have hf := op_e hf c2
        refine lv_aload_n hx hb d_Bc_linesBentBefore_12 rfl (lv_at hl 2 rfl) ?_
        refine lv_iload_n hx hb d_Bc_linesBentBefore_13 rfl (lv_at hl 0 rfl) ?_
        refine lv_iload_n hx hb d_Bc_linesBentBefore_14 rfl (lv_at hl 3 rfl) ?_
        obtain ⟨q3, hq3, hf⟩ := op_b hf
        refine ro_go rfl (va_runV (As := [.int x3, .int x1]) (rest := []) ⟨hx, hb, hml, hown, hts⟩ (m_Bc_isBentBefore l dC dI tC TL nl hL adL aT nT LS TS FP hF adF FS rf h_bc ad_bc bc ad_sg sg ad_tr tr ad_tu tu ad_ff ff ad_pl pl ad_lw lw x3 x1  q3 _ hFM hP hq3) (cwV 2 hts (gd_V kM_8_262 kI_Bc_isBentBefore kV_Bc_isBentBefore kZ_8 kC_Bc_isBentBefore) rfl rfl rfl (by decide +kernel) ⟨(Nat.le_of_ble_eq_true rfl), (Nat.le_of_ble_eq_true rfl)⟩) ⟨ro_blind, va_recv hK hP (ci := 8) (q0 := 0) rfl rfl, ro_pre hK⟩ rfl rfl hl.1 rfl (lv_room (Nat.le_of_ble_eq_true rfl)) d_Bc_linesBentBefore_15 ⟨(Nat.le_of_ble_eq_true rfl), (Nat.le_of_ble_eq_true rfl)⟩) ?_
        refine W.eq (g2 := F0 m 18 ls [.int q3]) rfl ?_
        refine lv_if_eq (tgt := 24) hx hb d_Bc_linesBentBefore_18 (by decide) (fun c4 => ?_) (fun c4 => ?_)
        · have hf := op_t hf c4
          refine lv_iinc (v := x3 + 1) (lv' := [(3, .int (x3 + 1)), (2, .int x2), (0, .ref h_bc), (1, .int x1)]) hx hb d_Bc_linesBentBefore_24 hl (k := 0) rfl rfl (by decide) rfl (fun ls hl => ?_)
          refine lv_goto (tgt := 4) hx hb d_Bc_linesBentBefore_27 (by decide) ?_
          exact ih_4 x1 x2 (x3 + 1) Rl hf _ (lv_sub hl [0, 1, 2, 3] rfl) Kk
        · have hf := op_e hf c4
          refine lv_iinc (v := x2 + 1) (lv' := [(2, .int (x2 + 1)), (3, .int x3), (0, .ref h_bc), (1, .int x1)]) hx hb d_Bc_linesBentBefore_21 hl (k := 1) rfl rfl (by decide) rfl (fun ls hl => ?_)
          refine lv_iinc (v := x3 + 1) (lv' := [(3, .int (x3 + 1)), (2, .int (x2 + 1)), (0, .ref h_bc), (1, .int x1)]) hx hb d_Bc_linesBentBefore_24 hl (k := 1) rfl rfl (by decide) rfl (fun ls hl => ?_)
          refine lv_goto (tgt := 4) hx hb d_Bc_linesBentBefore_27 (by decide) ?_
          exact ih_4 x1 (x2 + 1) (x3 + 1) Rl hf _ (lv_sub hl [0, 1, 2, 3] rfl) Kk
  obtain ⟨q1, hq1, hf⟩ := op_b hf
  refine lp_4 fu p1 0 0 q1 hq1 _ (lv_sub hl [0, 1, 2, 3] rfl) ?_
  intro ls hl
  refine lv_iload_n hx hb d_Bc_linesBentBefore_30 rfl (lv_at hl 1 rfl) ?_
  obtain rfl := Option.some.inj hf
  subst hQ
  exact W.iret (v := q1.1) hx hb hr (fun t ht hW => ⟨rfl, ht⟩) (fun q h => by cases h) d_Bc_linesBentBefore_31
def l_Bc_order_2 : Nat → Int32 → Int32 → Nat → (Nat → Nat) → (Nat → MS) → (Nat → MS) → (Nat → Bool) → (Nat → MS) → MS → MS → MS → MS → MS → MS → MS → Option (Int32)
  | 0, _, _, _, _, _, _, _, _, _, _, _, _, _, _, _ => none
  | n + 1, x1, x2, nl, nT, LS, TS, FP, FS, bc, sg, tr, tu, ff, pl, lw => (if (bc.1 1) ≤ x2 then some (-1) else (f_Bc_linesBentBefore nl nT LS TS FP FS bc sg tr tu ff pl lw x2).bind fun q2 => (if q2 = x1 then some x2 else l_Bc_order_2 n x1 (x2 + 1) nl nT LS TS FP FS bc sg tr tu ff pl lw))
def f_Bc_order (nl : Nat) (nT : Nat → Nat) (LS : Nat → MS) (TS : Nat → MS) (FP : Nat → Bool) (FS : Nat → MS) (bc : MS) (sg : MS) (tr : MS) (tu : MS) (ff : MS) (pl : MS) (lw : MS) (p1 : Int32) : Option (Int32) := l_Bc_order_2 fu p1 0 nl nT LS TS FP FS bc sg tr tu ff pl lw
def rm_Bc_order : Room := { frames := 2, cells := 0, slots := 0, locals := 47 }
set_option maxHeartbeats 4000000 in
set_option maxRecDepth 100000 in
theorem m_Bc_order (l : Launch) (dC : Nat → ClassId) (dI : Nat → Nat → Nat) (tC : Nat → ClassId) (TL : va_W) (nl : Nat) (hL : Nat → Nat) (adL aT : Nat → Nat → Nat) (nT : Nat → Nat) (LS TS : Nat → MS) (FP : Nat → Bool) (hF : Nat → Nat) (adF : Nat → Nat → Nat) (FS : Nat → MS) (rf : Nat → Nat → Option Nat) (h_bc : Nat) (ad_bc : Nat → Nat) (bc : MS) (ad_sg : Nat → Nat) (sg : MS) (ad_tr : Nat → Nat) (tr : MS) (ad_tu : Nat → Nat) (tu : MS) (ad_ff : Nat → Nat) (ff : MS) (ad_pl : Nat → Nat) (pl : MS) (ad_lw : Nat → Nat) (lw : MS) (p1 : Int32) (R : Int32) (H : Heap) (hFM : FM tC TL nl hL adL aT nT LS TS FP hF adF FS rf) (hP : va_P (dC, dI) vwCl (w_Bc_ h_bc ad_bc tC rf bc ++ (w_Sg_ (ad_bc 100) ad_sg tC sg ++ (w_Tr_ (ad_bc 104) ad_tr tC tr ++ (w_Tr_ (ad_bc 105) ad_tu tC tu ++ (w_Ff_ (ad_bc 103) ad_ff tC ff ++ (w_Pl_ (ad_bc 101) ad_pl tC pl ++ (w_Lw_ (ad_bc 102) ad_lw tC lw ++ TL))))))) H) (hf : f_Bc_order nl nT LS TS FP FS bc sg tr tu ff pl lw p1 = some R) : Met l y_Bc_order w_Bc_order rm_Bc_order (roP (dC, dI) tC H [.ref h_bc, .int p1]) (roQ H (some (.int R))) 0 0 (fun _ => False) := by
  refine Met.ofW (cc := c_Bc_order) (maxL := 3) (ret := (some (.int))) (by decide) rfl ?_
  intro p e s m args below meth c s₁ B hml hv
  obtain ⟨hav, hH, hK⟩ := hv
  have hx := B.exec
  have hb := B.bytes
  have hr := B.returns
  have hts : ∀ w ∈ gw, w.before args s = true := fun w h => atoms_spec (ws := w_Bc_order) B.pre w (List.mem_cons_of_mem _ h)
  have hown : s.vm.findClass RX8 = some m.cls := findClass_of_methodNamed B.named
  have hlocks := B.notSynchronized
  subst hH
  refine q_w (R := rm_Bc_order) (fun Q hQ => ?_)
  refine en_w (av := [.ref h_bc, .int p1]) hav (Nat.le_of_ble_eq_true rfl) (fun ls hl => ?_)
  have hl : lv_has ls 3 [(0, .ref h_bc), (1, .int p1)] := hl
  unfold f_Bc_order at hf
  refine lv_iconst (v := 0) hx hb d_Bc_order_0 (by decide) ?_
  refine lv_istore_n (lv' := [(2, .int 0), (0, .ref h_bc), (1, .int p1)]) hx hb d_Bc_order_1 rfl hl (by decide) rfl (fun ls hl => ?_)
  have lp_2 : ∀ (n : Nat) (x1 : Int32) (x2 : Int32), l_Bc_order_2 n x1 x2 nl nT LS TS FP FS bc sg tr tu ff pl lw = some R → ∀ ls : Array Slot, lv_has ls 3 [(2, .int x2), (0, .ref h_bc), (1, .int x1)] → W p l e rm_Bc_order s m args below meth c s.heap [] 0 0 Q (F0 m 2 ls []) := by
    intro n
    induction n with
    | zero => intro x1 x2 hf; cases hf
    | succ n ih_2 =>
      intro x1 x2 hf ls hl
      rw [l_Bc_order_2] at hf
      refine lv_iload_n hx hb d_Bc_order_2 rfl (lv_at hl 0 rfl) ?_
      refine lv_aload_n hx hb d_Bc_order_3 rfl (lv_at hl 1 rfl) ?_
      refine va_get (D := (dC, dI)) (ci := 8) (v := .int (bc.1 1)) (C := RX8) (T := TX8) (N := 12) hx hb hts in_X8 hown hK hP 0 rfl rfl 11 (by decide) (hts _ kF_8_73) (fun _ h9 => h9) rfl d_Bc_order_4 ?_
      refine lv_icmp_ge (tgt := 27) hx hb d_Bc_order_7 (by decide) (fun c1 => ?_) (fun c1 => ?_)
      · have hf := op_t hf c1
        refine lv_iconst (v := (-1)) hx hb d_Bc_order_27 (by decide) ?_
        obtain rfl := Option.some.inj hf
        subst hQ
        exact W.iret (v := (-1)) hx hb hr (fun t ht hW => ⟨rfl, ht⟩) (fun q h => by cases h) d_Bc_order_28
      · have hf := op_e hf c1
        refine lv_aload_n hx hb d_Bc_order_10 rfl (lv_at hl 1 rfl) ?_
        refine lv_iload_n hx hb d_Bc_order_11 rfl (lv_at hl 0 rfl) ?_
        obtain ⟨q2, hq2, hf⟩ := op_b hf
        refine ro_go rfl (va_runV (As := [.int x2]) (rest := []) ⟨hx, hb, hml, hown, hts⟩ (m_Bc_linesBentBefore l dC dI tC TL nl hL adL aT nT LS TS FP hF adF FS rf h_bc ad_bc bc ad_sg sg ad_tr tr ad_tu tu ad_ff ff ad_pl pl ad_lw lw x2  q2 _ hFM hP hq2) (cwV 1 hts (gd_V kM_8_232 kI_Bc_linesBentBefore kV_Bc_linesBentBefore kZ_8 kC_Bc_linesBentBefore) rfl rfl rfl (by decide +kernel) ⟨(Nat.le_of_ble_eq_true rfl), (Nat.le_of_ble_eq_true rfl)⟩) ⟨ro_blind, va_recv hK hP (ci := 8) (q0 := 0) rfl rfl, ro_pre hK⟩ rfl rfl hl.1 rfl (lv_room (Nat.le_of_ble_eq_true rfl)) d_Bc_order_12 ⟨(Nat.le_of_ble_eq_true rfl), (Nat.le_of_ble_eq_true rfl)⟩) ?_
        refine W.eq (g2 := F0 m 15 ls [.int q2]) rfl ?_
        refine lv_iload_n hx hb d_Bc_order_15 rfl (lv_at hl 2 rfl) ?_
        refine lv_icmp_ne (tgt := 21) hx hb d_Bc_order_16 (by decide) (fun c3 => ?_) (fun c3 => ?_)
        · have hf := op_e hf c3
          refine lv_iinc (v := x2 + 1) (lv' := [(2, .int (x2 + 1)), (0, .ref h_bc), (1, .int x1)]) hx hb d_Bc_order_21 hl (k := 0) rfl rfl (by decide) rfl (fun ls hl => ?_)
          refine lv_goto (tgt := 2) hx hb d_Bc_order_24 (by decide) ?_
          exact ih_2 x1 (x2 + 1) hf _ (lv_sub hl [0, 1, 2] rfl)
        · have hf := op_t hf c3
          refine lv_iload_n hx hb d_Bc_order_19 rfl (lv_at hl 0 rfl) ?_
          obtain rfl := Option.some.inj hf
          subst hQ
          exact W.iret (v := x2) hx hb hr (fun t ht hW => ⟨rfl, ht⟩) (fun q h => by cases h) d_Bc_order_20
  exact lp_2 fu p1 0 hf _ (lv_sub hl [0, 1, 2] rfl)
