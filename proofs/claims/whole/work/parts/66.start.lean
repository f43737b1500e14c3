theorem nz {k : Nat} {P : Prop} (h : k < 0) : P := absurd h (Nat.not_lt_zero k)
theorem zi0 : (0 : Int32) = jI ((0 : Nat) : Int) := rfl
theorem zl0 : (0 : Int64) = jL ((0 : Nat) : Int) := rfl
theorem zl1 : (0 : Int64) = jL 0 := rfl
theorem zb0 : (0 : Int32) = jI (b01 false) := rfl
def A0 : Ab := Ab.mk 0 (fun _ => 0) 0 (fun _ => 0) (fun _ _ => 0) (fun _ => 0) 0 (fun _ => 0) (fun _ => 0) (fun _ => 0) (fun _ _ => 0) (fun _ => false) (fun _ => 0) (fun _ => 0) (fun _ => 0) (fun _ => 0) (fun _ _ => 0) (fun _ _ => 0)
theorem ok_0 : Ok A0 := Ok.mk (Nat.zero_le 40) (fun k h => nz h) (Nat.zero_le 10) (fun j h => nz h) (fun j h => nz h) (fun j h => nz h) (fun d => Nat.zero_le 500) (Nat.zero_le 12) (fun i h => nz h) (fun i h => nz h) (fun i h => nz h) (fun i h => nz h) (fun i h => nz h) (fun i h => nz h) (fun i h => nz h) (fun i h => nz h) (fun d => Nat.zero_le 3) (fun d k h => nz h) (fun d k h => nz h)
theorem rm_0 : RM A0 S0 := RM.mk zi0 zi0 zi0 (fun k h => nz h) (fun j h => nz h) (fun j h => nz h) (fun i h => nz h) (fun i h => nz h) (fun i h => nz h) (fun i _ => by show (0 : Int32) = jI (b01 (if i < 0 then false else false)); rw [ite_self]; rfl) (fun d _ => zi0) (fun d _ k h => nz h) (fun d _ => zl0) (fun i _ k _ => by show (0 : Int64) = jL ((if i < 0 then 0 else 0 : Nat) : Int); rw [ite_self]; rfl) (fun i _ => (by show (0 : Int64) = jL (if i < 0 then 0 else 0); rw [ite_self]; rfl)) (fun i _ => (by show (0 : Int64) = jL (if i < 0 then 0 else 0); rw [ite_self]; rfl)) (fun i _ => (by show (0 : Int64) = jL (if i < 0 then 0 else 0); rw [ite_self]; rfl)) (fun d _ k h => nz h)
theorem rc_0 : RC A0 0 (fun _ => 0) (fun _ => S0) (fun _ => S0) (fun _ => false) (fun _ => S0) S0 S0 := ⟨rfl, zi0, zi0, fun d _ => zi0, zi0, fun k h => nz h, fun i h => nz h, fun i h => nz h, fun i h => nz h, fun d _ h => absurd h Bool.false_ne_true, fun d _ _ => rfl⟩
theorem rs_0 : RSs A0 (fun _ => 0) (fun _ => S0) := fun j h => nz h
theorem pl_0 : PL A0 S0 S0 := Or.inl ⟨rfl, rfl⟩
theorem fx_0 : FX 0 (fun _ => 0) (fun _ _ => 0) (fun _ _ => 0) (fun _ => 0) (fun _ => S0) (fun _ => false) (fun _ => 0) (fun _ _ => 0) (fun _ _ => none) 0 (fun _ => 0) (fun _ _ => 0) (fun _ => 0) (fun _ => S0) (fun _ => 0) := ⟨fun i h => nz h, fun i h => nz h, fun j h => nz h, fun d h => absurd h Bool.false_ne_true, fun d _ => rfl, fun i h => nz h, fun d h => absurd h Bool.false_ne_true⟩
theorem tal_0 (tC : Nat → ClassId) : (TAL tC 0 (fun _ => 0) (fun _ _ => 0) (fun _ => S0) 0 (fun _ => 0) (fun _ _ => 0) (fun _ => 0) (fun _ => S0) (fun _ => false) (fun _ => 0) (fun _ _ => 0) (fun _ => S0)) = [] := by simp [TAL, TLn, TSh, TSf]
theorem ar_p {s : State} {args : Array Value} {ty : FieldType} (h : (Cond.arrayClass ty).before args s = true) (hpr : ∀ cA : ClassId, va_RA s cA ty = (s.vm.findClass ("[" ++ ty.toString) = some cA)) : ∃ cA : ClassId, ArrOfT s cA ty ∧ va_RA s cA ty := by
  obtain ⟨cA, kA, comp, h1, h2, h3⟩ := Cond.arrayClass_spec h
  exact ⟨cA, fun n z => ⟨fun k h => (by cases h), kA, h2, comp, h3⟩, by rw [hpr]; exact h1⟩
theorem ar_q {s : State} {args : Array Value} {C : String} (h : (Cond.arrayOver (.object C)).before args s = true) : ∃ cA : ClassId, ArrOfT s cA (.object C) ∧ va_RA s cA (.object C) := by
  obtain ⟨comp, cA, kA, h1, h2, h3, h4, h5⟩ := Cond.arrayOver_spec h
  exact ⟨cA, fun n z => ⟨fun k h => (by cases h), kA, h3, comp, h4⟩, kA, comp, h3, h4, h1, h5⟩
set_option maxRecDepth 20000 in
theorem st_K {s : State} {args : Array Value} (hts0 : ∀ w ∈ lw_tbl, w.before args s = true) : ∃ (dC : Nat → ClassId) (dI : Nat → Nat → Nat) (tC : Nat → ClassId), va_K (dC, dI) vwCl (TY tC) s := by
  have hts : ∀ w ∈ gw, w.before args s = true := fun w h => hts0 w (List.mem_filter.mp h).1
  obtain ⟨c0, i0, h0⟩ := u_known (C := RX0) (T := TX0) (N := 1) (n := 1) hts in_X0 (hts _ kN_0)
  obtain ⟨c1, i1, h1⟩ := u_known (C := RX1) (T := TX1) (N := 11) (n := 11) hts in_X1 (hts _ kN_1)
  obtain ⟨c2, i2, h2⟩ := u_known (C := RX2) (T := TX2) (N := 9) (n := 9) hts in_X2 (hts _ kN_2)
  obtain ⟨c3, i3, h3⟩ := u_known (C := RX3) (T := TX3) (N := 12) (n := 12) hts in_X3 (hts _ kN_3)
  obtain ⟨c4, i4, h4⟩ := u_known (C := RX4) (T := TX4) (N := 3) (n := 3) hts in_X4 (hts _ kN_4)
  obtain ⟨c5, i5, h5⟩ := u_known (C := RX5) (T := TX5) (N := 3) (n := 3) hts in_X5 (hts _ kN_5)
  obtain ⟨c6, i6, h6⟩ := u_known (C := RX6) (T := TX6) (N := 2) (n := 2) hts in_X6 (hts _ kN_6)
  obtain ⟨c7, i7, h7⟩ := u_known (C := RX7) (T := TX7) (N := 8) (n := 8) hts in_X7 (hts _ kN_7)
  obtain ⟨c8, i8, h8⟩ := u_known (C := RX8) (T := TX8) (N := 12) (n := 12) hts in_X8 (hts _ kN_8)
  obtain ⟨c9, i9, h9⟩ := u_known (C := RX9) (T := TX9) (N := 46) (n := 46) hts in_X9 (hts _ kN_9)
  obtain ⟨t0, g0⟩ := ar_p (hts _ kA_int) (fun _ => rfl)
  obtain ⟨t1, g1⟩ := ar_p (hts _ kA_long) (fun _ => rfl)
  obtain ⟨t2, g2⟩ := ar_p (hts _ kA_char) (fun _ => rfl)
  obtain ⟨t3, g3⟩ := ar_p (hts _ kA_boolean) (fun _ => rfl)
  obtain ⟨t4, g4⟩ := ar_q (C := RX4) (hts0 _ (List.mem_append_right _ kH_over_4))
  obtain ⟨t5, g5⟩ := ar_q (C := RX2) (hts0 _ (List.mem_append_right _ kH_over_2))
  obtain ⟨t6, g6⟩ := ar_q (C := RX5) (hts0 _ (List.mem_append_right _ kH_over_5))
  refine ⟨fun k => [c0, c1, c2, c3, c4, c5, c6, c7, c8, c9].getD k c0, fun k => [i0, i1, i2, i3, i4, i5, i6, i7, i8, i9].getD k i0, fun k => [t0, t1, t2, t3, t4, t5, t6].getD k t0, fun k q hq => ?_, fun k q hq => ?_⟩
  · match k, hq with
    | 0, hq => cases hq; exact h0
    | 1, hq => cases hq; exact h1
    | 2, hq => cases hq; exact h2
    | 3, hq => cases hq; exact h3
    | 4, hq => cases hq; exact h4
    | 5, hq => cases hq; exact h5
    | 6, hq => cases hq; exact h6
    | 7, hq => cases hq; exact h7
    | 8, hq => cases hq; exact h8
    | 9, hq => cases hq; exact h9
    | k + 10, hq => simp [vwCl] at hq
  · match k, hq with
    | 0, hq => cases hq; exact g0
    | 1, hq => cases hq; exact g1
    | 2, hq => cases hq; exact g2
    | 3, hq => cases hq; exact g3
    | 4, hq => cases hq; exact g4
    | 5, hq => cases hq; exact g5
    | 6, hq => cases hq; exact g6
    | k + 7, hq => simp [TY] at hq
theorem st_N {s : State} {args : Array Value} (hts0 : ∀ w ∈ lw_tbl, w.before args s = true) : NX s := ⟨va_Nw.of rfl (hts0 _ (List.mem_append_right _ kH_8_11)), va_Nw.of rfl (hts0 _ (List.mem_append_right _ kH_8_40)), va_Nw.of rfl (hts0 _ (List.mem_append_right _ kH_8_47)), va_Nw.of rfl (hts0 _ (List.mem_append_right _ kH_8_54)), va_Nw.of rfl (hts0 _ (List.mem_append_right _ kH_8_61)), va_Nw.of rfl (hts0 _ (List.mem_append_right _ kH_8_137)), va_AO.of (hts0 _ (List.mem_append_right _ kH_over_4)), va_AO.of (hts0 _ (List.mem_append_right _ kH_over_2)), va_AO.of (hts0 _ (List.mem_append_right _ kH_over_5))⟩
set_option maxHeartbeats 4000000 in
set_option maxRecDepth 100000 in
theorem whole_start {p : Program} {e : Env} {s : State} {m : MethodId} {below : List Frame} {meth : Method} {c : Code} (l : Launch) {b L : Nat} {xs : Nat → Int32} (hL : L ≤ 4096) (C0 : lw_At p s m meth c b L xs) : W p l e room_1 s m #[Value.ref b] below meth c s.heap [] 0 0 (lw_Z below #[Value.ref b] s) (entryFrame m ([Value.ref b] : List Value).toArray 4) := by
  obtain ⟨hx, hb, hr, hml, hown, hts0, hX, hbl, hlocks, hgv⟩ := id C0
  have hts : ∀ w ∈ gw, w.before #[Value.ref b] s = true := fun w h => hts0 w (List.mem_filter.mp h).1
  have hown : s.vm.findClass RL = some m.cls := hown
  have hA : ∀ q : Nat, s.heap.size ≤ q → lA s q := fun _ h => h
  have hN : NX s := st_N hts0
  obtain ⟨dC, dI, tC, hK⟩ := st_K hts0
  have hS : va_S (lA s) s.heap s.heap [] := va_S.rf
  have hP : va_P (dC, dI) vwCl [] s.heap := fun k q h => by simp at h
  have hD : va_D (lA s) [] := ⟨fun i j p q h => by simp at h, fun k q h => by simp at h⟩
  have hl := lv_entry ([.ref b]) (n := 4) (Nat.le_of_ble_eq_true rfl)
  rw [lg_entry_eq]
  generalize (lg_sl ([.ref b]) ++ List.replicate (4 - (lg_sl ([.ref b])).length) Slot.unset).toArray = ls at hl ⊢
  have hl : lv_has ls 4 [(0, .ref b)] := hl
  refine va_new (ci := 8) (fs := [.null, .null, .null, .null, .null, .null, .null, .null, .null, .null, .int 0, .int 0]) (C := RX8) (T := TX8) (N := 12) hx hb hts in_X8 tyX8 tyX8_ok hown (hts _ kL_L_7) (hts _ kN_8) (hts _ kZ_8) hK hP hD hS hA rfl (fun j hj => (by decide +kernel : ∀ j, j < 12 → defaultValue (tyX8 j) = vp_V [.null, .null, .null, .null, .null, .null, .null, .null, .null, .null, .int 0, .int 0] j) j hj) (by decide +kernel) (by decide +kernel) d_L_law_0 (fun q1 H hP hD hS => ?_)
  refine lv_dup hx hb d_L_law_3 rfl ?_
  have hPx : va_P (dC, dI) vwCl (([] : va_W) ++ [(q1, .inr (8, [.null, .null, .null, .null, .null, .null, .null, .null, .null, .null, .int 0, .int 0]))]) H := hP
  have hDx : va_D (lA s) (([] : va_W) ++ [(q1, .inr (8, [.null, .null, .null, .null, .null, .null, .null, .null, .null, .null, .int 0, .int 0]))]) := hD
  have hPc := va_P_in hPx (w := [(q1, .inr (8, [.null, .null, .null, .null, .null, .null, .null, .null, .null, .null, .int 0, .int 0]))]) (fun q h => List.mem_append_right _ h)
  have hDc : va_D (lA s) [(q1, .inr (8, [.null, .null, .null, .null, .null, .null, .null, .null, .null, .null, .int 0, .int 0]))] := D_r hDx
  have hFc : ∀ q, va_A [(q1, .inr (8, [.null, .null, .null, .null, .null, .null, .null, .null, .null, .null, .int 0, .int 0]))] H.size q → lA s q := va_freeAll hDc hS hA
  refine wr_go (va_runI (As := []) (rest := [.ref q1]) ⟨hx, hb, hml, hown, hts⟩ (m_Bc_init l dC dI tC q1 H.size) (cwI 0 hts (gd_O kC_Bc_init) rfl rfl rfl (hts _ kZ_8) (hts _ kM_L_9) (hts _ kI_Bc_init) rfl (by decide +kernel) ⟨(by decide +kernel), (by decide +kernel)⟩) ⟨wrN_blind, (fun U hU hW => ⟨wr_pre hK hPc hDc U hU hW, NX.warm hW hN⟩)⟩ rfl rfl hl.1 rfl (lv_room (Nat.le_of_ble_eq_true rfl)) d_L_law_4 ⟨(by decide +kernel), (by decide +kernel)⟩) hS hFc (fun r w1 H1 locs hw hP1 hD1 hk1 hS => ?_)
  obtain ⟨rfl, ad_bc, ad_sg, ad_tr, ad_tu, ad_ff, ad_pl, ad_lw, rfl⟩ := hw
  obtain ⟨hP, hD⟩ := jn_A hPx hDx hk1 hFc hP1 hD1
  clear hP1 hD1 hk1 hPc hDc hFc hPx hDx
  refine W.eq (g2 := F0 m 7 ls [.ref q1]) rfl ?_
  have hP : va_P (dC, dI) vwCl (w_Bc_ q1 ad_bc tC (fun _ _ => none) S0 ++ (w_Sg_ (ad_bc 100) ad_sg tC S0 ++ (w_Tr_ (ad_bc 104) ad_tr tC S0 ++ (w_Tr_ (ad_bc 105) ad_tu tC S0 ++ (w_Ff_ (ad_bc 103) ad_ff tC S0 ++ (w_Pl_ (ad_bc 101) ad_pl tC S0 ++ w_Lw_ (ad_bc 102) ad_lw tC S0)))))) H1 := hP
  have hD : va_D (lA s) (w_Bc_ q1 ad_bc tC (fun _ _ => none) S0 ++ (w_Sg_ (ad_bc 100) ad_sg tC S0 ++ (w_Tr_ (ad_bc 104) ad_tr tC S0 ++ (w_Tr_ (ad_bc 105) ad_tu tC S0 ++ (w_Ff_ (ad_bc 103) ad_ff tC S0 ++ (w_Pl_ (ad_bc 101) ad_pl tC S0 ++ w_Lw_ (ad_bc 102) ad_lw tC S0)))))) := hD
  refine lv_astore_n (lv' := [(1, .ref q1), (0, .ref b)]) hx hb d_L_law_7 rfl hl (by decide) rfl (fun ls hl => ?_)
  refine va_new (ci := 9) (fs := [.null, .int 0, .int 0, .null, .null, .null, .int 0, .null, .null, .null, .null, .null, .null, .null, .null, .null, .null, .null, .null, .int 0, .null, .null, .null, .null, .null, .null, .null, .int 0, .int 0, .null, .null, .null, .null, .null, .int 0, .int 0, .int 0, .null, .null, .null, .null, .null, .null, .null, .null, .int 0]) (C := RX9) (T := TX9) (N := 46) hx hb hts in_X9 tyX9 tyX9_ok hown (hts _ kL_L_10) (hts _ kN_9) (hts _ kZ_9) hK hP hD hS hA rfl (fun j hj => (by decide +kernel : ∀ j, j < 46 → defaultValue (tyX9 j) = vp_V [.null, .int 0, .int 0, .null, .null, .null, .int 0, .null, .null, .null, .null, .null, .null, .null, .null, .null, .null, .null, .null, .int 0, .null, .null, .null, .null, .null, .null, .null, .int 0, .int 0, .null, .null, .null, .null, .null, .int 0, .int 0, .int 0, .null, .null, .null, .null, .null, .null, .null, .null, .int 0] j) j hj) (by decide +kernel) (by decide +kernel) d_L_law_8 (fun q2 H hP hD hS => ?_)
  refine lv_dup hx hb d_L_law_11 rfl ?_
  have hPx : va_P (dC, dI) vwCl ((w_Bc_ q1 ad_bc tC (fun _ _ => none) S0 ++ (w_Sg_ (ad_bc 100) ad_sg tC S0 ++ (w_Tr_ (ad_bc 104) ad_tr tC S0 ++ (w_Tr_ (ad_bc 105) ad_tu tC S0 ++ (w_Ff_ (ad_bc 103) ad_ff tC S0 ++ (w_Pl_ (ad_bc 101) ad_pl tC S0 ++ w_Lw_ (ad_bc 102) ad_lw tC S0)))))) ++ [(q2, .inr (9, [.null, .int 0, .int 0, .null, .null, .null, .int 0, .null, .null, .null, .null, .null, .null, .null, .null, .null, .null, .null, .null, .int 0, .null, .null, .null, .null, .null, .null, .null, .int 0, .int 0, .null, .null, .null, .null, .null, .int 0, .int 0, .int 0, .null, .null, .null, .null, .null, .null, .null, .null, .int 0]))]) H := hP
  have hDx : va_D (lA s) ((w_Bc_ q1 ad_bc tC (fun _ _ => none) S0 ++ (w_Sg_ (ad_bc 100) ad_sg tC S0 ++ (w_Tr_ (ad_bc 104) ad_tr tC S0 ++ (w_Tr_ (ad_bc 105) ad_tu tC S0 ++ (w_Ff_ (ad_bc 103) ad_ff tC S0 ++ (w_Pl_ (ad_bc 101) ad_pl tC S0 ++ w_Lw_ (ad_bc 102) ad_lw tC S0)))))) ++ [(q2, .inr (9, [.null, .int 0, .int 0, .null, .null, .null, .int 0, .null, .null, .null, .null, .null, .null, .null, .null, .null, .null, .null, .null, .int 0, .null, .null, .null, .null, .null, .null, .null, .int 0, .int 0, .null, .null, .null, .null, .null, .int 0, .int 0, .int 0, .null, .null, .null, .null, .null, .null, .null, .null, .int 0]))]) := hD
  have hPc := va_P_in hPx (w := [(q2, .inr (9, [.null, .int 0, .int 0, .null, .null, .null, .int 0, .null, .null, .null, .null, .null, .null, .null, .null, .null, .null, .null, .null, .int 0, .null, .null, .null, .null, .null, .null, .null, .int 0, .int 0, .null, .null, .null, .null, .null, .int 0, .int 0, .int 0, .null, .null, .null, .null, .null, .null, .null, .null, .int 0]))]) (fun q h => List.mem_append_right _ h)
  have hDc : va_D (lA s) [(q2, .inr (9, [.null, .int 0, .int 0, .null, .null, .null, .int 0, .null, .null, .null, .null, .null, .null, .null, .null, .null, .null, .null, .null, .int 0, .null, .null, .null, .null, .null, .null, .null, .int 0, .int 0, .null, .null, .null, .null, .null, .int 0, .int 0, .int 0, .null, .null, .null, .null, .null, .null, .null, .null, .int 0]))] := D_r hDx
  have hFc : ∀ q, va_A [(q2, .inr (9, [.null, .int 0, .int 0, .null, .null, .null, .int 0, .null, .null, .null, .null, .null, .null, .null, .null, .null, .null, .null, .null, .int 0, .null, .null, .null, .null, .null, .null, .null, .int 0, .int 0, .null, .null, .null, .null, .null, .int 0, .int 0, .int 0, .null, .null, .null, .null, .null, .null, .null, .null, .int 0]))] H.size q → lA s q := va_freeAll hDc hS hA
  refine wr_go (va_runI (As := []) (rest := [.ref q2]) ⟨hx, hb, hml, hown, hts⟩ (m_Md_init l dC dI tC q2 H.size) (cwI 0 hts (gd_O kC_Md_init) rfl rfl rfl (hts _ kZ_9) (hts _ kM_L_12) (hts _ kI_Md_init) rfl (by decide +kernel) ⟨(by decide +kernel), (by decide +kernel)⟩) ⟨wr_blind, wr_pre hK hPc hDc⟩ rfl rfl hl.1 rfl (lv_room (Nat.le_of_ble_eq_true rfl)) d_L_law_12 ⟨(by decide +kernel), (by decide +kernel)⟩) hS hFc (fun r w1 H1 locs hw hP1 hD1 hk1 hS => ?_)
  obtain ⟨rfl, ad_md, rfl⟩ := hw
  obtain ⟨hP, hD⟩ := jn_A hPx hDx hk1 hFc hP1 hD1
  clear hP1 hD1 hk1 hPc hDc hFc hPx hDx
  refine W.eq (g2 := F0 m 15 ls [.ref q2]) rfl ?_
  have hP : va_P (dC, dI) vwCl ((w_Bc_ q1 ad_bc tC (fun _ _ => none) S0 ++ (w_Sg_ (ad_bc 100) ad_sg tC S0 ++ (w_Tr_ (ad_bc 104) ad_tr tC S0 ++ (w_Tr_ (ad_bc 105) ad_tu tC S0 ++ (w_Ff_ (ad_bc 103) ad_ff tC S0 ++ (w_Pl_ (ad_bc 101) ad_pl tC S0 ++ w_Lw_ (ad_bc 102) ad_lw tC S0)))))) ++ w_Md_ q2 ad_md tC S0) H1 := hP
  have hD : va_D (lA s) ((w_Bc_ q1 ad_bc tC (fun _ _ => none) S0 ++ (w_Sg_ (ad_bc 100) ad_sg tC S0 ++ (w_Tr_ (ad_bc 104) ad_tr tC S0 ++ (w_Tr_ (ad_bc 105) ad_tu tC S0 ++ (w_Ff_ (ad_bc 103) ad_ff tC S0 ++ (w_Pl_ (ad_bc 101) ad_pl tC S0 ++ w_Lw_ (ad_bc 102) ad_lw tC S0)))))) ++ w_Md_ q2 ad_md tC S0) := hD
  refine lv_astore_n (lv' := [(2, .ref q2), (1, .ref q1), (0, .ref b)]) hx hb d_L_law_15 rfl hl (by decide) rfl (fun ls hl => ?_)
  refine lv_iconst (v := (jI ((8 * 0 : Nat) : Int))) hx hb d_L_law_16 (by decide) ?_
  refine lv_istore_n (lv' := [(3, .int (jI ((8 * 0 : Nat) : Int))), (2, .ref q2), (1, .ref q1), (0, .ref b)]) hx hb d_L_law_17 rfl hl (by decide) rfl (fun ls hl => ?_)
  have hP := pm_P List.perm_append_comm hP
  have hD := pm_D List.perm_append_comm hD
  have e9 : (w_Bc_ q1 ad_bc tC (fun _ _ => none) S0 ++ (w_Sg_ (ad_bc 100) ad_sg tC S0 ++ (w_Tr_ (ad_bc 104) ad_tr tC S0 ++ (w_Tr_ (ad_bc 105) ad_tu tC S0 ++ (w_Ff_ (ad_bc 103) ad_ff tC S0 ++ (w_Pl_ (ad_bc 101) ad_pl tC S0 ++ (w_Lw_ (ad_bc 102) ad_lw tC S0 ++ (TAL tC 0 (fun _ => 0) (fun _ _ => 0) (fun _ => S0) 0 (fun _ => 0) (fun _ _ => 0) (fun _ => 0) (fun _ => S0) (fun _ => false) (fun _ => 0) (fun _ _ => 0) (fun _ => S0))))))))) = (w_Bc_ q1 ad_bc tC (fun _ _ => none) S0 ++ (w_Sg_ (ad_bc 100) ad_sg tC S0 ++ (w_Tr_ (ad_bc 104) ad_tr tC S0 ++ (w_Tr_ (ad_bc 105) ad_tu tC S0 ++ (w_Ff_ (ad_bc 103) ad_ff tC S0 ++ (w_Pl_ (ad_bc 101) ad_pl tC S0 ++ w_Lw_ (ad_bc 102) ad_lw tC S0)))))) := by rw [tal_0, List.append_nil]
  rw [← e9] at hP hD
  refine W.widen (k := 80 + 3 * 0) (n := 6100 + 43 * 0) (by decide) (by decide) ?_
  exact law_loop ⟨hx, hb, hml, hown, hts, hX, hbl, hK, hN⟩ hr hlocks hL 600 0 (by omega) (by omega) hS ⟨A0, ad_bc, ad_sg, ad_tr, ad_tu, ad_ff, ad_pl, ad_lw, ad_md, S0, S0, S0, S0, S0, S0, S0, S0, 0, (fun _ => 0), (fun _ _ => 0), (fun _ _ => 0), (fun _ => 0), (fun _ => S0), (fun _ => S0), (fun _ => false), (fun _ => 0), (fun _ _ => 0), (fun _ => S0), (fun _ _ => none), 0, (fun _ => 0), (fun _ _ => 0), (fun _ => 0), (fun _ => S0), (fun _ => 0), hP, hD, fx_0, ok_0, rc_0, rm_0, rs_0, pl_0, rfl⟩ hl
