theorem lf8 {a b c d e f g h X Y : va_W} (hp : X.Perm Y) : (a ++ (b ++ (c ++ (d ++ (e ++ (f ++ (g ++ (h ++ X)))))))).Perm (a ++ (b ++ (c ++ (d ++ (e ++ (f ++ (g ++ (h ++ Y)))))))) :=
  List.Perm.append_left _ (List.Perm.append_left _ (List.Perm.append_left _ (List.Perm.append_left _ (List.Perm.append_left _ (List.Perm.append_left _ (List.Perm.append_left _ (List.Perm.append_left _ hp)))))))
theorem dt8 {A : Nat → Prop} {a b c d e f g h X : va_W} (hD : va_D A (a ++ (b ++ (c ++ (d ++ (e ++ (f ++ (g ++ (h ++ X))))))))) : va_D A X := D_r (D_r (D_r (D_r (D_r (D_r (D_r (D_r hD)))))))
theorem nd_of {A : Nat → Prop} {ws : va_W} (h : va_D A ws) : (ws.map Prod.fst).Nodup := by
  rw [List.nodup_iff_pairwise_ne, List.pairwise_iff_getElem]
  intro i j hi hj hij he
  have hi' : i < ws.length := by simpa using hi
  have hj' : j < ws.length := by simpa using hj
  have := h.1 i j ws[i] ws[j] (List.getElem?_eq_getElem hi') (List.getElem?_eq_getElem hj') (by simpa using he)
  omega
section Fam2
variable {tC : Nat → ClassId} {nl : Nat} {hL : Nat → Nat} {adL aT : Nat → Nat → Nat} {nT : Nat → Nat} {LS TS : Nat → MS} {FP : Nat → Bool} {hF : Nat → Nat} {adF : Nat → Nat → Nat} {FS : Nat → MS} {rf : Nat → Nat → Option Nat} {ns : Nat} {gS : Nat → Nat} {aS : Nat → Nat → Nat} {nS : Nat → Nat} {SS : Nat → MS} {sh : Nat → Nat}
theorem FX.shelf (h : FX nl hL adL aT nT TS FP hF adF rf ns gS aS nS SS sh) {d q : Nat} {ad : Nat → Nat} (hd : d < 37) (hn : [q, ad 0, ad 1].Nodup) : FX nl hL adL aT nT TS (va_up FP d true) (va_up hF d q) (va_up adF d ad) (va_up rf 2 (va_up (rf 2) d (some q))) ns gS aS nS SS sh := by
  obtain ⟨h1, h2, h3, h4, h5, h6, h7⟩ := h
  refine ⟨h1, fun i hi => ?_, fun j hj => ?_, fun k hk => ?_, fun k hk => ?_, h6, fun k hk => ?_⟩
  · rw [vaup_a, if_neg (by omega)]; exact h2 i hi
  · rw [vaup_a, if_neg (by omega)]; exact h3 j hj
  · rw [vaup_a, if_pos rfl, vaup_a, vaup_a]
    by_cases e : k = d
    · rw [if_pos e, if_pos e]; exact ⟨by omega, rfl⟩
    · rw [vaup_a, if_neg e] at hk
      rw [if_neg e, if_neg e]; exact h4 k hk
  · rw [vaup_a, if_pos rfl, vaup_a]
    by_cases e : k = d
    · rw [vaup_a, if_pos e] at hk; cases hk
    · rw [vaup_a, if_neg e] at hk
      rw [if_neg e]; exact h5 k hk
  · rw [vaup_a, vaup_a]
    by_cases e : k = d
    · rw [if_pos e, if_pos e]; exact hn
    · rw [vaup_a, if_neg e] at hk
      rw [if_neg e, if_neg e]; exact h7 k hk
theorem FX.line (h : FX nl hL adL aT nT TS FP hF adF rf ns gS aS nS SS sh) {s q : Nat} {ad : Nat → Nat} (hs : s < ns) (ha : ad 100 = gS s) (hn : [q, ad 0, ad 100, aS s 0].Nodup) : FX (nl + 1) (va_up hL nl q) (va_up adL nl ad) (va_up aT nl (aS s)) (va_up nT nl (nS s)) (va_up TS nl (SS s)) FP hF adF (va_up rf 1 (va_up (rf 1) nl (some q))) ns gS aS nS SS (va_up sh nl s) := by
  obtain ⟨h1, h2, h3, h4, h5, h6, h7⟩ := h
  refine ⟨fun i hi => ?_, fun i hi => ?_, fun j hj => ?_, fun k hk => ?_, fun k hk => ?_, fun i hi => ?_, h7⟩
  · simp only [vaup_a]
    by_cases e : i = nl
    · simp only [if_pos e]; exact ⟨hs, ha, trivial, trivial, trivial⟩
    · simp only [if_neg e]; exact h1 i (by omega)
  · rw [vaup_a, if_pos rfl, vaup_a, vaup_a]
    by_cases e : i = nl
    · rw [if_pos e, if_pos e]
    · rw [if_neg e, if_neg e]; exact h2 i (by omega)
  · rw [vaup_a, if_neg (by omega)]; exact h3 j hj
  · rw [vaup_a, if_neg (by omega)]; exact h4 k hk
  · rw [vaup_a, if_neg (by omega)]; exact h5 k hk
  · simp only [vaup_a]
    by_cases e : i = nl
    · simp only [if_pos e]; exact hn
    · simp only [if_neg e]; exact h6 i (by omega)
theorem FX.shape (h : FX nl hL adL aT nT TS FP hF adF rf ns gS aS nS SS sh) {q n : Nat} {ad : Nat → Nat} {S : MS} : FX nl hL adL aT nT TS FP hF adF (va_up rf 0 (va_up (rf 0) ns (some q))) (ns + 1) (va_up gS ns q) (va_up aS ns ad) (va_up nS ns n) (va_up SS ns S) sh := by
  obtain ⟨h1, h2, h3, h4, h5, h6, h7⟩ := h
  refine ⟨fun i hi => ?_, fun i hi => ?_, fun j hj => ?_, fun k hk => ?_, fun k hk => ?_, h6, h7⟩
  · obtain ⟨a1, a2, a3, a4, a5⟩ := h1 i hi
    have e : ¬ sh i = ns := by omega
    simp only [vaup_a, if_neg e]
    exact ⟨by omega, a2, a3, a4, a5⟩
  · rw [vaup_a, if_neg (by omega)]; exact h2 i hi
  · rw [vaup_a, if_pos rfl, vaup_a, vaup_a]
    by_cases e : j = ns
    · rw [if_pos e, if_pos e]
    · rw [if_neg e, if_neg e]; exact h3 j (by omega)
  · rw [vaup_a, if_neg (by omega)]; exact h4 k hk
  · rw [vaup_a, if_neg (by omega)]; exact h5 k hk
theorem nd_shelf {A : Nat → Prop} {q : Nat} {ad : Nat → Nat} {S : MS} {X : va_W} (h : va_D A (w_Sf_ q ad tC S ++ X)) : [q, ad 0, ad 1].Nodup := nd_of (D_l h)
theorem nd_line {A : Nat → Prop} {q n : Nat} {ad a2 : Nat → Nat} {S S2 : MS} {X : va_W} (h : va_D A (w_Ln_ q ad tC S ++ X)) {g : Nat} (hg : ad 100 = g) (hm : ∀ y ∈ w_Sh_ g a2 tC n S2, y ∈ X) (hn : g ≠ a2 0) : [q, ad 0, ad 100, a2 0].Nodup := by
  subst hg
  have h1 : [q, ad 0].Nodup := nd_of (D_l h)
  have m1 := hm (ad 100, _) (List.mem_of_getElem? (i := 0) rfl)
  have m2 := hm (a2 0, _) (List.mem_of_getElem? (i := 1) rfl)
  have l1 : ∃ y, (q, y) ∈ w_Ln_ q ad tC S := ⟨_, List.mem_of_getElem? (i := 0) rfl⟩
  have l2 : ∃ y, (ad 0, y) ∈ w_Ln_ q ad tC S := ⟨_, List.mem_of_getElem? (i := 1) rfl⟩
  obtain ⟨y1, l1⟩ := l1
  obtain ⟨y2, l2⟩ := l2
  have d1 := D_dis h l1 m1
  have d2 := D_dis h l1 m2
  have d3 := D_dis h l2 m1
  have d4 := D_dis h l2 m2
  simp only [List.nodup_cons, List.mem_cons, List.not_mem_nil, or_false, not_false_eq_true, List.nodup_nil, and_true] at h1 ⊢
  exact ⟨fun h => h.elim h1 (fun h => h.elim d1 d2), fun h => h.elim d3 d4, hn⟩
theorem nd_shp {A : Nat → Prop} {X : va_W} (h : va_D A X) {g n : Nat} {a2 : Nat → Nat} {S2 : MS} (hm : ∀ y ∈ w_Sh_ g a2 tC n S2, y ∈ X) : g ≠ a2 0 := fun e => by
  have m1 := hm (g, _) (List.mem_of_getElem? (i := 0) rfl)
  have m2 := hm (a2 0, _) (List.mem_of_getElem? (i := 1) rfl)
  have := D_un h m1 m2 e
  have := congrArg Prod.snd this
  cases this
end Fam2
