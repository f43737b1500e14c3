theorem pm_mid {X Y B Z : va_W} : (X ++ (Y ++ (B ++ Z))).Perm (B ++ (X ++ (Y ++ Z))) := by
  have h := List.perm_append_comm_assoc (X ++ Y) B Z
  simp only [List.append_assoc] at h
  exact h
theorem pm_lst {X B Y : va_W} : ((X ++ B) ++ Y).Perm (B ++ (X ++ Y)) := by
  have h := List.Perm.append_right Y (List.perm_append_comm (l₁ := X) (l₂ := B))
  simp only [List.append_assoc] at h ⊢
  exact h
theorem fm_cut {f : Nat → va_W} {n i : Nat} (h : i < n) : ((List.range n).flatMap f).Perm (f i ++ ((List.range n).erase i).flatMap f) := by
  have h1 := List.Perm.flatMap_right f (List.perm_cons_erase (List.mem_range.mpr h))
  rw [List.flatMap_cons] at h1
  exact h1
theorem fm_same {f g : Nat → va_W} {n i : Nat} (h : ∀ j, j ≠ i → g j = f j) : ((List.range n).erase i).flatMap g = ((List.range n).erase i).flatMap f := by
  have hm : ∀ j ∈ (List.range n).erase i, j ≠ i := fun j hj => ((List.Nodup.mem_erase_iff List.nodup_range).mp hj).1
  generalize (List.range n).erase i = L at hm
  induction L with
  | nil => rfl
  | cons x L ih => rw [List.flatMap_cons, List.flatMap_cons, h x (hm x (by simp)), ih (fun j hj => hm j (by simp [hj]))]
theorem fm_lt {f g : Nat → va_W} {n : Nat} (h : ∀ j, j < n → g j = f j) : (List.range n).flatMap g = (List.range n).flatMap f := by
  have hm : ∀ j ∈ List.range n, j < n := fun j hj => List.mem_range.mp hj
  generalize List.range n = L at hm
  induction L with
  | nil => rfl
  | cons x L ih => rw [List.flatMap_cons, List.flatMap_cons, h x (hm x (by simp)), ih (fun j hj => hm j (by simp [hj]))]
theorem fm_put {f g : Nat → va_W} {n i : Nat} (h : i < n) (hg : ∀ j, j ≠ i → g j = f j) {X : va_W} (hX : (((List.range n).flatMap f)).Perm (f i ++ X)) : ((List.range n).flatMap g).Perm (g i ++ ((List.range n).erase i).flatMap f) := by
  rw [← fm_same hg]
  exact fm_cut h
/-- the tail of the world: lines, shapes, shelves -/
def TLn (tC : Nat → ClassId) (nl : Nat) (hL : Nat → Nat) (adL : Nat → Nat → Nat) (LS : Nat → MS) : va_W := (List.range nl).flatMap (fun i => w_Ln_ (hL i) (adL i) tC (LS i))
def TSh (tC : Nat → ClassId) (ns : Nat) (gS : Nat → Nat) (aS : Nat → Nat → Nat) (nS : Nat → Nat) (SS : Nat → MS) : va_W := (List.range ns).flatMap (fun j => w_Sh_ (gS j) (aS j) tC (nS j) (SS j))
def TSf (tC : Nat → ClassId) (FP : Nat → Bool) (hF : Nat → Nat) (adF : Nat → Nat → Nat) (FS : Nat → MS) : va_W := (List.range 37).flatMap (fun d => if FP d = true then w_Sf_ (hF d) (adF d) tC (FS d) else [])
def TAL (tC : Nat → ClassId) (nl : Nat) (hL : Nat → Nat) (adL : Nat → Nat → Nat) (LS : Nat → MS) (ns : Nat) (gS : Nat → Nat) (aS : Nat → Nat → Nat) (nS : Nat → Nat) (SS : Nat → MS) (FP : Nat → Bool) (hF : Nat → Nat) (adF : Nat → Nat → Nat) (FS : Nat → MS) : va_W := TLn tC nl hL adL LS ++ (TSh tC ns gS aS nS SS ++ TSf tC FP hF adF FS)
def FX (nl : Nat) (hL : Nat → Nat) (adL aT : Nat → Nat → Nat) (nT : Nat → Nat) (TS : Nat → MS) (FP : Nat → Bool) (hF : Nat → Nat) (adF : Nat → Nat → Nat) (rf : Nat → Nat → Option Nat) (ns : Nat) (gS : Nat → Nat) (aS : Nat → Nat → Nat) (nS : Nat → Nat) (SS : Nat → MS) (sh : Nat → Nat) : Prop :=
  (∀ i, i < nl → sh i < ns ∧ adL i 100 = gS (sh i) ∧ aT i = aS (sh i) ∧ nT i = nS (sh i) ∧ TS i = SS (sh i)) ∧ (∀ i, i < nl → rf 1 i = some (hL i)) ∧ (∀ j, j < ns → rf 0 j = some (gS j)) ∧ (∀ d, FP d = true → d < 37 ∧ rf 2 d = some (hF d)) ∧ (∀ d, FP d = false → rf 2 d = none) ∧ (∀ i, i < nl → [hL i, adL i 0, adL i 100, aT i 0].Nodup) ∧ (∀ d, FP d = true → [hF d, adF d 0, adF d 1].Nodup)
section Fam
variable {tC : Nat → ClassId} {nl : Nat} {hL : Nat → Nat} {adL aT : Nat → Nat → Nat} {nT : Nat → Nat} {LS TS : Nat → MS} {FP : Nat → Bool} {hF : Nat → Nat} {adF : Nat → Nat → Nat} {FS : Nat → MS} {rf : Nat → Nat → Option Nat} {ns : Nat} {gS : Nat → Nat} {aS : Nat → Nat → Nat} {nS : Nat → Nat} {SS : Nat → MS} {sh : Nat → Nat}
theorem mem_TSh {j : Nat} (hj : j < ns) : ∀ q ∈ w_Sh_ (gS j) (aS j) tC (nS j) (SS j), q ∈ TSh tC ns gS aS nS SS := fun q h => List.mem_flatMap.mpr ⟨j, List.mem_range.mpr hj, h⟩
theorem FX.fm (h : FX nl hL adL aT nT TS FP hF adF rf ns gS aS nS SS sh) {TL : va_W} (hp : ∀ q, q ∈ TAL tC nl hL adL LS ns gS aS nS SS FP hF adF FS → q ∈ TL) : FM tC TL nl hL adL aT nT LS TS FP hF adF FS rf := by
  obtain ⟨h1, h2, h3, h4, h5, h6, h7⟩ := h
  refine ⟨fun i hi q hq => hp q (List.mem_append_left _ (List.mem_flatMap.mpr ⟨i, List.mem_range.mpr hi, hq⟩)), fun i hi q hq => ?_, h2, fun d hd q hq => hp q (List.mem_append_right _ (List.mem_append_right _ (List.mem_flatMap.mpr ⟨d, List.mem_range.mpr (h4 d hd).1, by rw [if_pos hd]; exact hq⟩))), fun d hd => (h4 d hd).2, h5, h6, h7⟩
  obtain ⟨a1, a2, a3, a4, a5⟩ := h1 i hi
  rw [a2, a3, a4, a5] at hq
  exact hp q (List.mem_append_right _ (List.mem_append_left _ (mem_TSh a1 q hq)))
/-- a line's cells, apart from the rest -/
theorem cut_line (h : FX nl hL adL aT nT TS FP hF adF rf ns gS aS nS SS sh) {i : Nat} (hi : i < nl) : ∃ T0 : va_W, (TAL tC nl hL adL LS ns gS aS nS SS FP hF adF FS).Perm (w_Ln_ (hL i) (adL i) tC (LS i) ++ T0) ∧ (∀ q ∈ w_Sh_ (adL i 100) (aT i) tC (nT i) (TS i), q ∈ T0) ∧ ∀ S : MS, (TAL tC nl hL adL (va_up LS i S) ns gS aS nS SS FP hF adF FS).Perm (w_Ln_ (hL i) (adL i) tC S ++ T0) := by
  refine ⟨((List.range nl).erase i).flatMap (fun i => w_Ln_ (hL i) (adL i) tC (LS i)) ++ (TSh tC ns gS aS nS SS ++ TSf tC FP hF adF FS), ?_, fun q hq => ?_, fun S => ?_⟩
  · rw [← List.append_assoc]
    exact List.Perm.append_right _ (fm_cut hi)
  · obtain ⟨a1, a2, a3, a4, a5⟩ := h.1 i hi
    rw [a2, a3, a4, a5] at hq
    exact List.mem_append_right _ (List.mem_append_left _ (mem_TSh a1 q hq))
  · rw [← List.append_assoc]
    refine List.Perm.append_right _ ?_
    have h1 := fm_cut (f := fun k => w_Ln_ (hL k) (adL k) tC (va_up LS i S k)) hi
    rw [fm_same (f := fun k => w_Ln_ (hL k) (adL k) tC (LS k)) (fun j hj => by show w_Ln_ _ _ _ (va_up LS i S j) = _; rw [vaup_a, if_neg hj])] at h1
    have e : va_up LS i S i = S := by rw [vaup_a, if_pos rfl]
    rw [e] at h1
    exact h1
theorem cut_shelf {d : Nat} (hd : d < 37) (hF1 : FP d = true) : ∃ T0 : va_W, (TAL tC nl hL adL LS ns gS aS nS SS FP hF adF FS).Perm (w_Sf_ (hF d) (adF d) tC (FS d) ++ T0) ∧ ∀ S : MS, (TAL tC nl hL adL LS ns gS aS nS SS FP hF adF (va_up FS d S)).Perm (w_Sf_ (hF d) (adF d) tC S ++ T0) := by
  refine ⟨TLn tC nl hL adL LS ++ (TSh tC ns gS aS nS SS ++ ((List.range 37).erase d).flatMap (fun d => if FP d = true then w_Sf_ (hF d) (adF d) tC (FS d) else [])), ?_, fun S => ?_⟩
  · have h1 := fm_cut (f := fun d => if FP d = true then w_Sf_ (hF d) (adF d) tC (FS d) else []) hd
    simp only [if_pos hF1] at h1
    have h2 : (TAL tC nl hL adL LS ns gS aS nS SS FP hF adF FS).Perm (TLn tC nl hL adL LS ++ (TSh tC ns gS aS nS SS ++ (w_Sf_ (hF d) (adF d) tC (FS d) ++ ((List.range 37).erase d).flatMap (fun d => if FP d = true then w_Sf_ (hF d) (adF d) tC (FS d) else [])))) := List.Perm.append_left _ (List.Perm.append_left _ h1)
    exact h2.trans pm_mid
  · have h1 := fm_cut (f := fun k => if FP k = true then w_Sf_ (hF k) (adF k) tC (va_up FS d S k) else []) hd
    rw [fm_same (f := fun d => if FP d = true then w_Sf_ (hF d) (adF d) tC (FS d) else []) (fun j hj => by show (if FP j = true then w_Sf_ _ _ _ (va_up FS d S j) else []) = _; rw [vaup_a, if_neg hj])] at h1
    have e : va_up FS d S d = S := by rw [vaup_a, if_pos rfl]
    simp only [if_pos hF1, e] at h1
    have h2 : (TAL tC nl hL adL LS ns gS aS nS SS FP hF adF (va_up FS d S)).Perm (TLn tC nl hL adL LS ++ (TSh tC ns gS aS nS SS ++ (w_Sf_ (hF d) (adF d) tC S ++ ((List.range 37).erase d).flatMap (fun d => if FP d = true then w_Sf_ (hF d) (adF d) tC (FS d) else [])))) := List.Perm.append_left _ (List.Perm.append_left _ h1)
    exact h2.trans pm_mid
/-- new blocks -/
theorem add_line {q : Nat} {ad : Nat → Nat} {S : MS} : (TAL tC (nl + 1) (va_up hL nl q) (va_up adL nl ad) (va_up LS nl S) ns gS aS nS SS FP hF adF FS).Perm (w_Ln_ q ad tC S ++ TAL tC nl hL adL LS ns gS aS nS SS FP hF adF FS) := by
  have e : TLn tC (nl + 1) (va_up hL nl q) (va_up adL nl ad) (va_up LS nl S) = TLn tC nl hL adL LS ++ w_Ln_ q ad tC S := by
    unfold TLn
    rw [List.range_succ, List.flatMap_append, fm_lt (f := fun i => w_Ln_ (hL i) (adL i) tC (LS i)) (fun j hj => by simp only [vaup_a, if_neg (show ¬ j = nl by omega)])]
    congr 1
    simp only [List.flatMap_cons, List.flatMap_nil, List.append_nil, vaup_a, if_true]
  unfold TAL
  rw [e]
  exact pm_lst
theorem add_shape {q : Nat} {ad : Nat → Nat} {n : Nat} {S : MS} : (TAL tC nl hL adL LS (ns + 1) (va_up gS ns q) (va_up aS ns ad) (va_up nS ns n) (va_up SS ns S) FP hF adF FS).Perm (w_Sh_ q ad tC n S ++ TAL tC nl hL adL LS ns gS aS nS SS FP hF adF FS) := by
  have e : TSh tC (ns + 1) (va_up gS ns q) (va_up aS ns ad) (va_up nS ns n) (va_up SS ns S) = TSh tC ns gS aS nS SS ++ w_Sh_ q ad tC n S := by
    unfold TSh
    rw [List.range_succ, List.flatMap_append, fm_lt (f := fun j => w_Sh_ (gS j) (aS j) tC (nS j) (SS j)) (fun j hj => by simp only [vaup_a, if_neg (show ¬ j = ns by omega)])]
    congr 1
    simp only [List.flatMap_cons, List.flatMap_nil, List.append_nil, vaup_a, if_true]
  unfold TAL
  rw [e, List.append_assoc]
  exact pm_mid
theorem add_shelf {d : Nat} (hd : d < 37) (hF0 : FP d = false) {q : Nat} {ad : Nat → Nat} {S : MS} : (TAL tC nl hL adL LS ns gS aS nS SS (va_up FP d true) (va_up hF d q) (va_up adF d ad) (va_up FS d S)).Perm (w_Sf_ q ad tC S ++ TAL tC nl hL adL LS ns gS aS nS SS FP hF adF FS) := by
  have h1 := fm_cut (f := fun k => if va_up FP d true k = true then w_Sf_ (va_up hF d q k) (va_up adF d ad k) tC (va_up FS d S k) else []) hd
  rw [fm_same (f := fun k => if FP k = true then w_Sf_ (hF k) (adF k) tC (FS k) else []) (fun j hj => by simp only [vaup_a, if_neg hj])] at h1
  simp only [vaup_a, if_true] at h1
  have h2 := fm_cut (f := fun k => if FP k = true then w_Sf_ (hF k) (adF k) tC (FS k) else []) hd
  simp only [hF0, Bool.false_eq_true, if_false, List.nil_append] at h2
  have h3 : (TSf tC (va_up FP d true) (va_up hF d q) (va_up adF d ad) (va_up FS d S)).Perm (w_Sf_ q ad tC S ++ TSf tC FP hF adF FS) := by
    unfold TSf
    simp only [vaup_a]
    exact h1.trans (List.Perm.append_left _ h2.symm)
  unfold TAL
  exact (List.Perm.append_left _ (List.Perm.append_left _ h3)).trans pm_mid
end Fam
