/-- what the nest mates' constructors and the arrays of references need of a state -/
def NX (U : State) : Prop := va_Nw (.methodLinkNest RX8 11 y_Sg_init RX8) U ∧ va_Nw (.methodLinkNest RX8 40 y_Pl_init RX8) U ∧ va_Nw (.methodLinkNest RX8 47 y_Lw_init RX8) U ∧ va_Nw (.methodLinkNest RX8 54 y_Ff_init RX8) U ∧ va_Nw (.methodLinkNest RX8 61 y_Tr_init RX8) U ∧ va_Nw (.methodLinkNest RX8 137 y_Sf_init RX8) U ∧ va_AO RX4 U ∧ va_AO RX2 U ∧ va_AO RX5 U
theorem NX.warm {s U : State} (hW : s.WarmedH U.vm) (h : NX s) : NX U := ⟨va_Nw.warmM hW h.1, va_Nw.warmM hW h.2.1, va_Nw.warmM hW h.2.2.1, va_Nw.warmM hW h.2.2.2.1, va_Nw.warmM hW h.2.2.2.2.1, va_Nw.warmM hW h.2.2.2.2.2.1, va_AO.moved hW.alike h.2.2.2.2.2.2.1, va_AO.moved hW.alike h.2.2.2.2.2.2.2.1, va_AO.moved hW.alike h.2.2.2.2.2.2.2.2⟩
theorem NX.same {u U : State} (e : u.vm = U.vm) (h : NX u) : NX U := ⟨va_Nw.same rfl e h.1, va_Nw.same rfl e h.2.1, va_Nw.same rfl e h.2.2.1, va_Nw.same rfl e h.2.2.2.1, va_Nw.same rfl e h.2.2.2.2.1, va_Nw.same rfl e h.2.2.2.2.2.1, va_AO.moved (e ▸ Vm.Alike.refl u.vm) h.2.2.2.2.2.2.1, va_AO.moved (e ▸ Vm.Alike.refl u.vm) h.2.2.2.2.2.2.2.1, va_AO.moved (e ▸ Vm.Alike.refl u.vm) h.2.2.2.2.2.2.2.2⟩
def wrN (D : va_G) (tC : Nat → ClassId) (ws : va_W) (sz : Nat) (av : List Value) : Array Value → State → Prop := fun a U => wrP D tC ws sz av a U ∧ NX U
theorem wrN_blind {D : va_G} {tC : Nat → ClassId} {ws : va_W} {sz : Nat} {av : List Value} : FrameBlind (wrN D tC ws sz av) := fun a U g mk q => ⟨wr_blind a U g mk q.1, NX.same (u := U) (U := U.calling g mk a) rfl q.2⟩
def rm_Bc_init : Room := { frames := 3, cells := 37, slots := 1261, locals := 80 }
set_option maxHeartbeats 4000000 in
set_option maxRecDepth 100000 in
theorem m_Bc_init (l : Launch) (dC : Nat → ClassId) (dI : Nat → Nat → Nat) (tC : Nat → ClassId) (h : Nat) (sz : Nat) : Met l y_Bc_init w_Bc_init rm_Bc_init (wrN (dC, dI) tC [(h, .inr (8, [.null, .null, .null, .null, .null, .null, .null, .null, .null, .null, .int 0, .int 0]))] sz [.ref h]) (wrQ (dC, dI) [(h, .inr (8, [.null, .null, .null, .null, .null, .null, .null, .null, .null, .null, .int 0, .int 0]))] sz (fun r w => r = none ∧ ∃ ad dsg dtr dtu dff dpl dlw : Nat → Nat, w = w_Bc_ h ad tC (fun _ _ => none) S0 ++ (w_Sg_ (ad 100) dsg tC S0 ++ (w_Tr_ (ad 104) dtr tC S0 ++ (w_Tr_ (ad 105) dtu tC S0 ++ (w_Ff_ (ad 103) dff tC S0 ++ (w_Pl_ (ad 101) dpl tC S0 ++ w_Lw_ (ad 102) dlw tC S0))))))) 37 1261 (va_A [(h, .inr (8, [.null, .null, .null, .null, .null, .null, .null, .null, .null, .null, .int 0, .int 0]))] sz) := by
  refine Met.ofW (cc := c_Bc_init) (maxL := 1) (ret := none) (by decide) rfl ?_
  intro p e s m args below meth c s₁ B hml hv
  obtain ⟨⟨hav, hsz, hP, hK, hD0⟩, hN⟩ := hv
  have hx := B.exec
  have hb := B.bytes
  have hr := B.returns
  have hts : ∀ w ∈ gw, w.before args s = true := fun w h => atoms_spec (ws := w_Bc_init) B.pre w (List.mem_cons_of_mem _ h)
  have hown : s.vm.findClass RX8 = some m.cls := findClass_of_methodNamed B.named
  have hlocks := B.notSynchronized
  have hin : meth.name = "<init>" := (name_of_methodNamed B.named B.method).1
  subst hsz
  have hD := hD0.self (sz := s.heap.size)
  obtain ⟨A, hAe⟩ : ∃ z, z = va_A [(h, .inr (8, [.null, .null, .null, .null, .null, .null, .null, .null, .null, .null, .int 0, .int 0]))] s.heap.size := ⟨_, rfl⟩
  rw [← hAe] at hD
  have hA : ∀ q : Nat, s.heap.size ≤ q → A q := fun q h => by rw [hAe]; exact Or.inr h
  have hS : va_S A s.heap s.heap [] := va_S.rf
  refine q_w (R := rm_Bc_init) (fun Q hQ => ?_)
  refine en_w (av := [.ref h]) hav (Nat.le_of_ble_eq_true rfl) (fun ls hl => ?_)
  have hl : lv_has ls 1 [(0, .ref h)] := hl
  obtain ⟨f0, hf0⟩ : ∃ z : List Value, z = [.null, .null, .null, .null, .null, .null, .null, .null, .null, .null, .int 0, .int 0] := ⟨_, rfl⟩
  have hn0 : f0.length = 12 := by rw [hf0]; rfl
  obtain ⟨a0, ha0⟩ : ∃ z : va_W, z = [] := ⟨_, rfl⟩
  have hP : va_P (dC, dI) vwCl ((h, .inr (8, f0)) :: a0) s.heap := by rw [hf0, ha0]; exact hP
  have hD : va_D A ((h, .inr (8, f0)) :: a0) := by rw [hf0, ha0]; exact hD
  refine lv_aload_n hx hb d_Bc_init_0 rfl (lv_at hl 0 rfl) ?_
  refine W.objInit hx hb hown (hts _ kM_8_3) (hts _ kI_obj) (hts _ kC_obj) rfl (by rw [hml]; exact hl.1) rfl d_Bc_init_1 (Nat.le_of_ble_eq_true rfl) (Nat.le_of_ble_eq_true rfl) ?_
  refine W.eq (g2 := F0 m 4 ls []) rfl ?_
  refine lv_aload_n hx hb d_Bc_init_4 rfl (lv_at hl 0 rfl) ?_
  refine va_new (ci := 6) (fs := [.null, .int 0]) (C := RX6) (T := TX6) (N := 2) hx hb hts in_X6 tyX6 tyX6_ok hown (hts _ kL_8_9) (hts _ kN_6) (hts _ kZ_6) hK hP hD hS hA rfl (fun j hj => (by decide +kernel : ∀ j, j < 2 → defaultValue (tyX6 j) = vp_V [.null, .int 0] j) j hj) (by decide +kernel) (by decide +kernel) d_Bc_init_5 (fun q0 H hP hD hS => ?_)
  refine lv_dup hx hb d_Bc_init_8 rfl ?_
  have hPx : va_P (dC, dI) vwCl (((h, .inr (8, f0)) :: a0) ++ [(q0, .inr (6, [.null, .int 0]))]) H := hP
  have hDx : va_D A (((h, .inr (8, f0)) :: a0) ++ [(q0, .inr (6, [.null, .int 0]))]) := hD
  have hPc := va_P_in hPx (w := [(q0, .inr (6, [.null, .int 0]))]) (fun q h => List.mem_append_right _ h)
  have hDc : va_D A [(q0, .inr (6, [.null, .int 0]))] := D_r hDx
  have hFc : ∀ q, va_A [(q0, .inr (6, [.null, .int 0]))] H.size q → A q := va_freeAll hDc hS hA
  refine wr_go (va_runIN (As := []) (rest := [.ref q0, .ref h]) ⟨hx, hb, hml, hown, hts⟩ (m_Sg_init l dC dI tC q0 H.size) ⟨va_cnB 0 hts (gd_O kC_Sg_init) rfl rfl rfl hN.1 (hts _ kZ_6) (by decide +kernel) ⟨(Nat.le_of_ble_eq_true rfl), (Nat.le_of_ble_eq_true rfl)⟩, rfl, hts _ kI_Sg_init⟩ ⟨wr_blind, wr_pre hK hPc hDc⟩ rfl rfl hl.1 rfl (lv_room (Nat.le_of_ble_eq_true rfl)) d_Bc_init_9 ⟨(by decide +kernel), (by decide +kernel)⟩) hS hFc (fun r w1 H1 locs hw hP1 hD1 hk1 hS => ?_)
  obtain ⟨rfl, dq0, rfl⟩ := hw
  obtain ⟨hP, hD⟩ := jn_A hPx hDx hk1 hFc hP1 hD1
  clear hP1 hD1 hk1 hPc hDc hFc hPx hDx
  refine W.eq (g2 := F0 m 12 ls [.ref q0, .ref h]) rfl ?_
  obtain ⟨a1, ha1⟩ : ∃ z : va_W, z = a0 ++ w_Sg_ q0 dq0 tC S0 := ⟨_, rfl⟩
  have hP : va_P (dC, dI) vwCl ((h, .inr (8, f0)) :: a1) H1 := by rw [ha1]; exact hP
  have hD : va_D A ((h, .inr (8, f0)) :: a1) := by rw [ha1]; exact hD
  refine va_putF (D := (dC, dI)) (ci := 8) (v := .ref q0) (ty := .object "BarCutting$Signs") (C := RX8) (T := TX8) (N := 12) hx hb hts in_X8 tyX8 tyX8_ok nmX8 hown hK hP hD hS 0 (fs := f0) rfl rfl 0 (by decide) (hts _ kF_8_12) (fun _ h9 => h9) rfl hin rfl (by decide +kernel) rfl rfl (by rw [hn0]; decide) d_Bc_init_12 (fun H locs hP hD hS => ?_)
  obtain ⟨f1, hf1⟩ : ∃ z : List Value, z = f0.set 0 (.ref q0) := ⟨_, rfl⟩
  have hn1 : f1.length = 12 := by rw [hf1, List.length_set]; exact hn0
  have hP : va_P (dC, dI) vwCl ((h, .inr (8, f1)) :: a1) H := by rw [hf1]; exact hP
  have hD : va_D A ((h, .inr (8, f1)) :: a1) := by rw [hf1]; exact hD
  refine lv_aload_n hx hb d_Bc_init_15 rfl (lv_at hl 0 rfl) ?_
  refine lv_bipush (v := 10) hx hb d_Bc_init_16 (by decide) ?_
  refine xq_new (C := RX4) (n := 10) (N' := 10) hx hb hown (hts _ kL_8_16) hN.2.2.2.2.2.2.1 hK 4 rfl hP hD hS hA (by decide +kernel) (by decide +kernel) (by decide +kernel) (by decide +kernel) (by decide +kernel) d_Bc_init_18 (fun q1 H hP hD hS => ?_)
  obtain ⟨a2, ha2⟩ : ∃ z : va_W, z = a1 ++ [(q1, .inl (tC 4, 10, .inr (.inr (.inr (.inr (fun _ => none))))))] := ⟨_, rfl⟩
  have hP : va_P (dC, dI) vwCl ((h, .inr (8, f1)) :: a2) H := by rw [ha2]; exact hP
  have hD : va_D A ((h, .inr (8, f1)) :: a2) := by rw [ha2]; exact hD
  refine va_putF (D := (dC, dI)) (ci := 8) (v := .ref q1) (ty := .array (.object "BarCutting$Shape")) (C := RX8) (T := TX8) (N := 12) hx hb hts in_X8 tyX8 tyX8_ok nmX8 hown hK hP hD hS 0 (fs := f1) rfl rfl 1 (by decide) (hts _ kF_8_18) (fun _ h9 => h9) rfl hin rfl (by decide +kernel) rfl rfl (by rw [hn1]; decide) d_Bc_init_21 (fun H locs hP hD hS => ?_)
  obtain ⟨f2, hf2⟩ : ∃ z : List Value, z = f1.set 1 (.ref q1) := ⟨_, rfl⟩
  have hn2 : f2.length = 12 := by rw [hf2, List.length_set]; exact hn1
  have hP : va_P (dC, dI) vwCl ((h, .inr (8, f2)) :: a2) H := by rw [hf2]; exact hP
  have hD : va_D A ((h, .inr (8, f2)) :: a2) := by rw [hf2]; exact hD
  refine lv_aload_n hx hb d_Bc_init_24 rfl (lv_at hl 0 rfl) ?_
  refine lv_bipush (v := 12) hx hb d_Bc_init_25 (by decide) ?_
  refine xq_new (C := RX2) (n := 12) (N' := 12) hx hb hown (hts _ kL_8_22) hN.2.2.2.2.2.2.2.1 hK 5 rfl hP hD hS hA (by decide +kernel) (by decide +kernel) (by decide +kernel) (by decide +kernel) (by decide +kernel) d_Bc_init_27 (fun q2 H hP hD hS => ?_)
  obtain ⟨a3, ha3⟩ : ∃ z : va_W, z = a2 ++ [(q2, .inl (tC 5, 12, .inr (.inr (.inr (.inr (fun _ => none))))))] := ⟨_, rfl⟩
  have hP : va_P (dC, dI) vwCl ((h, .inr (8, f2)) :: a3) H := by rw [ha3]; exact hP
  have hD : va_D A ((h, .inr (8, f2)) :: a3) := by rw [ha3]; exact hD
  refine va_putF (D := (dC, dI)) (ci := 8) (v := .ref q2) (ty := .array (.object "BarCutting$Line")) (C := RX8) (T := TX8) (N := 12) hx hb hts in_X8 tyX8 tyX8_ok nmX8 hown hK hP hD hS 0 (fs := f2) rfl rfl 2 (by decide) (hts _ kF_8_24) (fun _ h9 => h9) rfl hin rfl (by decide +kernel) rfl rfl (by rw [hn2]; decide) d_Bc_init_30 (fun H locs hP hD hS => ?_)
  obtain ⟨f3, hf3⟩ : ∃ z : List Value, z = f2.set 2 (.ref q2) := ⟨_, rfl⟩
  have hn3 : f3.length = 12 := by rw [hf3, List.length_set]; exact hn2
  have hP : va_P (dC, dI) vwCl ((h, .inr (8, f3)) :: a3) H := by rw [hf3]; exact hP
  have hD : va_D A ((h, .inr (8, f3)) :: a3) := by rw [hf3]; exact hD
  refine lv_aload_n hx hb d_Bc_init_33 rfl (lv_at hl 0 rfl) ?_
  refine lv_bipush (v := 37) hx hb d_Bc_init_34 (by decide) ?_
  refine xa_new (atype := .int) (ty := .int) (n := 37) (N' := 37) (a0 := (37, .inl (fun _ => 0))) hx hb (hts _ kA_int) rfl hK 0 rfl (fun _ _ => rfl) hP hD hS hA (xv_int _) (by decide +kernel) (by decide +kernel) (by decide +kernel) (by decide +kernel) (by decide +kernel) d_Bc_init_36 (fun q3 H hP hD hS => ?_)
  obtain ⟨a4, ha4⟩ : ∃ z : va_W, z = a3 ++ [(q3, .inl (tC 0, 37, .inl (fun _ => 0)))] := ⟨_, rfl⟩
  have hP : va_P (dC, dI) vwCl ((h, .inr (8, f3)) :: a4) H := by rw [ha4]; exact hP
  have hD : va_D A ((h, .inr (8, f3)) :: a4) := by rw [ha4]; exact hD
  refine va_putF (D := (dC, dI)) (ci := 8) (v := .ref q3) (ty := .array .int) (C := RX8) (T := TX8) (N := 12) hx hb hts in_X8 tyX8 tyX8_ok nmX8 hown hK hP hD hS 0 (fs := f3) rfl rfl 3 (by decide) (hts _ kF_8_28) (fun _ h9 => h9) rfl hin rfl (by decide +kernel) rfl rfl (by rw [hn3]; decide) d_Bc_init_38 (fun H locs hP hD hS => ?_)
  obtain ⟨f4, hf4⟩ : ∃ z : List Value, z = f3.set 3 (.ref q3) := ⟨_, rfl⟩
  have hn4 : f4.length = 12 := by rw [hf4, List.length_set]; exact hn3
  have hP : va_P (dC, dI) vwCl ((h, .inr (8, f4)) :: a4) H := by rw [hf4]; exact hP
  have hD : va_D A ((h, .inr (8, f4)) :: a4) := by rw [hf4]; exact hD
  refine lv_aload_n hx hb d_Bc_init_41 rfl (lv_at hl 0 rfl) ?_
  refine lv_bipush (v := 37) hx hb d_Bc_init_42 (by decide) ?_
  refine xq_new (C := RX5) (n := 37) (N' := 37) hx hb hown (hts _ kL_8_32) hN.2.2.2.2.2.2.2.2 hK 6 rfl hP hD hS hA (by decide +kernel) (by decide +kernel) (by decide +kernel) (by decide +kernel) (by decide +kernel) d_Bc_init_44 (fun q4 H hP hD hS => ?_)
  obtain ⟨a5, ha5⟩ : ∃ z : va_W, z = a4 ++ [(q4, .inl (tC 6, 37, .inr (.inr (.inr (.inr (fun _ => none))))))] := ⟨_, rfl⟩
  have hP : va_P (dC, dI) vwCl ((h, .inr (8, f4)) :: a5) H := by rw [ha5]; exact hP
  have hD : va_D A ((h, .inr (8, f4)) :: a5) := by rw [ha5]; exact hD
  refine va_putF (D := (dC, dI)) (ci := 8) (v := .ref q4) (ty := .array (.object "BarCutting$Shelf")) (C := RX8) (T := TX8) (N := 12) hx hb hts in_X8 tyX8 tyX8_ok nmX8 hown hK hP hD hS 0 (fs := f4) rfl rfl 4 (by decide) (hts _ kF_8_34) (fun _ h9 => h9) rfl hin rfl (by decide +kernel) rfl rfl (by rw [hn4]; decide) d_Bc_init_47 (fun H locs hP hD hS => ?_)
  obtain ⟨f5, hf5⟩ : ∃ z : List Value, z = f4.set 4 (.ref q4) := ⟨_, rfl⟩
  have hn5 : f5.length = 12 := by rw [hf5, List.length_set]; exact hn4
  have hP : va_P (dC, dI) vwCl ((h, .inr (8, f5)) :: a5) H := by rw [hf5]; exact hP
  have hD : va_D A ((h, .inr (8, f5)) :: a5) := by rw [hf5]; exact hD
  refine lv_aload_n hx hb d_Bc_init_50 rfl (lv_at hl 0 rfl) ?_
  refine va_new (ci := 3) (fs := [.null, .null, .null, .null, .null, .null, .null, .int 0, .int 0, .int 0, .int 0, .int 0]) (C := RX3) (T := TX3) (N := 12) hx hb hts in_X3 tyX3 tyX3_ok hown (hts _ kL_8_38) (hts _ kN_3) (hts _ kZ_3) hK hP hD hS hA rfl (fun j hj => (by decide +kernel : ∀ j, j < 12 → defaultValue (tyX3 j) = vp_V [.null, .null, .null, .null, .null, .null, .null, .int 0, .int 0, .int 0, .int 0, .int 0] j) j hj) (by decide +kernel) (by decide +kernel) d_Bc_init_51 (fun q5 H hP hD hS => ?_)
  refine lv_dup hx hb d_Bc_init_54 rfl ?_
  have hPx : va_P (dC, dI) vwCl (((h, .inr (8, f5)) :: a5) ++ [(q5, .inr (3, [.null, .null, .null, .null, .null, .null, .null, .int 0, .int 0, .int 0, .int 0, .int 0]))]) H := hP
  have hDx : va_D A (((h, .inr (8, f5)) :: a5) ++ [(q5, .inr (3, [.null, .null, .null, .null, .null, .null, .null, .int 0, .int 0, .int 0, .int 0, .int 0]))]) := hD
  have hPc := va_P_in hPx (w := [(q5, .inr (3, [.null, .null, .null, .null, .null, .null, .null, .int 0, .int 0, .int 0, .int 0, .int 0]))]) (fun q h => List.mem_append_right _ h)
  have hDc : va_D A [(q5, .inr (3, [.null, .null, .null, .null, .null, .null, .null, .int 0, .int 0, .int 0, .int 0, .int 0]))] := D_r hDx
  have hFc : ∀ q, va_A [(q5, .inr (3, [.null, .null, .null, .null, .null, .null, .null, .int 0, .int 0, .int 0, .int 0, .int 0]))] H.size q → A q := va_freeAll hDc hS hA
  refine wr_go (va_runIN (As := []) (rest := [.ref q5, .ref h]) ⟨hx, hb, hml, hown, hts⟩ (m_Pl_init l dC dI tC q5 H.size) ⟨va_cnB 0 hts (gd_O kC_Pl_init) rfl rfl rfl hN.2.1 (hts _ kZ_3) (by decide +kernel) ⟨(Nat.le_of_ble_eq_true rfl), (Nat.le_of_ble_eq_true rfl)⟩, rfl, hts _ kI_Pl_init⟩ ⟨wr_blind, wr_pre hK hPc hDc⟩ rfl rfl hl.1 rfl (lv_room (Nat.le_of_ble_eq_true rfl)) d_Bc_init_55 ⟨(by decide +kernel), (by decide +kernel)⟩) hS hFc (fun r w1 H1 locs hw hP1 hD1 hk1 hS => ?_)
  obtain ⟨rfl, dq5, rfl⟩ := hw
  obtain ⟨hP, hD⟩ := jn_A hPx hDx hk1 hFc hP1 hD1
  clear hP1 hD1 hk1 hPc hDc hFc hPx hDx
  refine W.eq (g2 := F0 m 58 ls [.ref q5, .ref h]) rfl ?_
  obtain ⟨a6, ha6⟩ : ∃ z : va_W, z = a5 ++ w_Pl_ q5 dq5 tC S0 := ⟨_, rfl⟩
  have hP : va_P (dC, dI) vwCl ((h, .inr (8, f5)) :: a6) H1 := by rw [ha6]; exact hP
  have hD : va_D A ((h, .inr (8, f5)) :: a6) := by rw [ha6]; exact hD
  refine va_putF (D := (dC, dI)) (ci := 8) (v := .ref q5) (ty := .object "BarCutting$Plan") (C := RX8) (T := TX8) (N := 12) hx hb hts in_X8 tyX8 tyX8_ok nmX8 hown hK hP hD hS 0 (fs := f5) rfl rfl 5 (by decide) (hts _ kF_8_41) (fun _ h9 => h9) rfl hin rfl (by decide +kernel) rfl rfl (by rw [hn5]; decide) d_Bc_init_58 (fun H locs hP hD hS => ?_)
  obtain ⟨f6, hf6⟩ : ∃ z : List Value, z = f5.set 5 (.ref q5) := ⟨_, rfl⟩
  have hn6 : f6.length = 12 := by rw [hf6, List.length_set]; exact hn5
  have hP : va_P (dC, dI) vwCl ((h, .inr (8, f6)) :: a6) H := by rw [hf6]; exact hP
  have hD : va_D A ((h, .inr (8, f6)) :: a6) := by rw [hf6]; exact hD
  refine lv_aload_n hx hb d_Bc_init_61 rfl (lv_at hl 0 rfl) ?_
  refine va_new (ci := 1) (fs := [.null, .null, .null, .null, .null, .null, .null, .null, .int 0, .int 0, .int 0]) (C := RX1) (T := TX1) (N := 11) hx hb hts in_X1 tyX1 tyX1_ok hown (hts _ kL_8_45) (hts _ kN_1) (hts _ kZ_1) hK hP hD hS hA rfl (fun j hj => (by decide +kernel : ∀ j, j < 11 → defaultValue (tyX1 j) = vp_V [.null, .null, .null, .null, .null, .null, .null, .null, .int 0, .int 0, .int 0] j) j hj) (by decide +kernel) (by decide +kernel) d_Bc_init_62 (fun q6 H hP hD hS => ?_)
  refine lv_dup hx hb d_Bc_init_65 rfl ?_
  have hPx : va_P (dC, dI) vwCl (((h, .inr (8, f6)) :: a6) ++ [(q6, .inr (1, [.null, .null, .null, .null, .null, .null, .null, .null, .int 0, .int 0, .int 0]))]) H := hP
  have hDx : va_D A (((h, .inr (8, f6)) :: a6) ++ [(q6, .inr (1, [.null, .null, .null, .null, .null, .null, .null, .null, .int 0, .int 0, .int 0]))]) := hD
  have hPc := va_P_in hPx (w := [(q6, .inr (1, [.null, .null, .null, .null, .null, .null, .null, .null, .int 0, .int 0, .int 0]))]) (fun q h => List.mem_append_right _ h)
  have hDc : va_D A [(q6, .inr (1, [.null, .null, .null, .null, .null, .null, .null, .null, .int 0, .int 0, .int 0]))] := D_r hDx
  have hFc : ∀ q, va_A [(q6, .inr (1, [.null, .null, .null, .null, .null, .null, .null, .null, .int 0, .int 0, .int 0]))] H.size q → A q := va_freeAll hDc hS hA
  refine wr_go (va_runIN (As := []) (rest := [.ref q6, .ref h]) ⟨hx, hb, hml, hown, hts⟩ (m_Lw_init l dC dI tC q6 H.size) ⟨va_cnB 0 hts (gd_O kC_Lw_init) rfl rfl rfl hN.2.2.1 (hts _ kZ_1) (by decide +kernel) ⟨(Nat.le_of_ble_eq_true rfl), (Nat.le_of_ble_eq_true rfl)⟩, rfl, hts _ kI_Lw_init⟩ ⟨wr_blind, wr_pre hK hPc hDc⟩ rfl rfl hl.1 rfl (lv_room (Nat.le_of_ble_eq_true rfl)) d_Bc_init_66 ⟨(by decide +kernel), (by decide +kernel)⟩) hS hFc (fun r w1 H1 locs hw hP1 hD1 hk1 hS => ?_)
  obtain ⟨rfl, dq6, rfl⟩ := hw
  obtain ⟨hP, hD⟩ := jn_A hPx hDx hk1 hFc hP1 hD1
  clear hP1 hD1 hk1 hPc hDc hFc hPx hDx
  refine W.eq (g2 := F0 m 69 ls [.ref q6, .ref h]) rfl ?_
  obtain ⟨a7, ha7⟩ : ∃ z : va_W, z = a6 ++ w_Lw_ q6 dq6 tC S0 := ⟨_, rfl⟩
  have hP : va_P (dC, dI) vwCl ((h, .inr (8, f6)) :: a7) H1 := by rw [ha7]; exact hP
  have hD : va_D A ((h, .inr (8, f6)) :: a7) := by rw [ha7]; exact hD
  refine va_putF (D := (dC, dI)) (ci := 8) (v := .ref q6) (ty := .object "BarCutting$LeastWaste") (C := RX8) (T := TX8) (N := 12) hx hb hts in_X8 tyX8 tyX8_ok nmX8 hown hK hP hD hS 0 (fs := f6) rfl rfl 6 (by decide) (hts _ kF_8_48) (fun _ h9 => h9) rfl hin rfl (by decide +kernel) rfl rfl (by rw [hn6]; decide) d_Bc_init_69 (fun H locs hP hD hS => ?_)
  obtain ⟨f7, hf7⟩ : ∃ z : List Value, z = f6.set 6 (.ref q6) := ⟨_, rfl⟩
  have hn7 : f7.length = 12 := by rw [hf7, List.length_set]; exact hn6
  have hP : va_P (dC, dI) vwCl ((h, .inr (8, f7)) :: a7) H := by rw [hf7]; exact hP
  have hD : va_D A ((h, .inr (8, f7)) :: a7) := by rw [hf7]; exact hD
  refine lv_aload_n hx hb d_Bc_init_72 rfl (lv_at hl 0 rfl) ?_
  refine va_new (ci := 0) (fs := [.null]) (C := RX0) (T := TX0) (N := 1) hx hb hts in_X0 tyX0 tyX0_ok hown (hts _ kL_8_52) (hts _ kN_0) (hts _ kZ_0) hK hP hD hS hA rfl (fun j hj => (by decide +kernel : ∀ j, j < 1 → defaultValue (tyX0 j) = vp_V [.null] j) j hj) (by decide +kernel) (by decide +kernel) d_Bc_init_73 (fun q7 H hP hD hS => ?_)
  refine lv_dup hx hb d_Bc_init_76 rfl ?_
  have hPx : va_P (dC, dI) vwCl (((h, .inr (8, f7)) :: a7) ++ [(q7, .inr (0, [.null]))]) H := hP
  have hDx : va_D A (((h, .inr (8, f7)) :: a7) ++ [(q7, .inr (0, [.null]))]) := hD
  have hPc := va_P_in hPx (w := [(q7, .inr (0, [.null]))]) (fun q h => List.mem_append_right _ h)
  have hDc : va_D A [(q7, .inr (0, [.null]))] := D_r hDx
  have hFc : ∀ q, va_A [(q7, .inr (0, [.null]))] H.size q → A q := va_freeAll hDc hS hA
  refine wr_go (va_runIN (As := []) (rest := [.ref q7, .ref h]) ⟨hx, hb, hml, hown, hts⟩ (m_Ff_init l dC dI tC q7 H.size) ⟨va_cnB 0 hts (gd_O kC_Ff_init) rfl rfl rfl hN.2.2.2.1 (hts _ kZ_0) (by decide +kernel) ⟨(Nat.le_of_ble_eq_true rfl), (Nat.le_of_ble_eq_true rfl)⟩, rfl, hts _ kI_Ff_init⟩ ⟨wr_blind, wr_pre hK hPc hDc⟩ rfl rfl hl.1 rfl (lv_room (Nat.le_of_ble_eq_true rfl)) d_Bc_init_77 ⟨(by decide +kernel), (by decide +kernel)⟩) hS hFc (fun r w1 H1 locs hw hP1 hD1 hk1 hS => ?_)
  obtain ⟨rfl, dq7, rfl⟩ := hw
  obtain ⟨hP, hD⟩ := jn_A hPx hDx hk1 hFc hP1 hD1
  clear hP1 hD1 hk1 hPc hDc hFc hPx hDx
  refine W.eq (g2 := F0 m 80 ls [.ref q7, .ref h]) rfl ?_
  obtain ⟨a8, ha8⟩ : ∃ z : va_W, z = a7 ++ w_Ff_ q7 dq7 tC S0 := ⟨_, rfl⟩
  have hP : va_P (dC, dI) vwCl ((h, .inr (8, f7)) :: a8) H1 := by rw [ha8]; exact hP
  have hD : va_D A ((h, .inr (8, f7)) :: a8) := by rw [ha8]; exact hD
  refine va_putF (D := (dC, dI)) (ci := 8) (v := .ref q7) (ty := .object "BarCutting$FirstFit") (C := RX8) (T := TX8) (N := 12) hx hb hts in_X8 tyX8 tyX8_ok nmX8 hown hK hP hD hS 0 (fs := f7) rfl rfl 7 (by decide) (hts _ kF_8_55) (fun _ h9 => h9) rfl hin rfl (by decide +kernel) rfl rfl (by rw [hn7]; decide) d_Bc_init_80 (fun H locs hP hD hS => ?_)
  obtain ⟨f8, hf8⟩ : ∃ z : List Value, z = f7.set 7 (.ref q7) := ⟨_, rfl⟩
  have hn8 : f8.length = 12 := by rw [hf8, List.length_set]; exact hn7
  have hP : va_P (dC, dI) vwCl ((h, .inr (8, f8)) :: a8) H := by rw [hf8]; exact hP
  have hD : va_D A ((h, .inr (8, f8)) :: a8) := by rw [hf8]; exact hD
  refine lv_aload_n hx hb d_Bc_init_83 rfl (lv_at hl 0 rfl) ?_
  refine va_new (ci := 7) (fs := [.null, .null, .null, .null, .null, .int 0, .int 0, .int 0]) (C := RX7) (T := TX7) (N := 8) hx hb hts in_X7 tyX7 tyX7_ok hown (hts _ kL_8_59) (hts _ kN_7) (hts _ kZ_7) hK hP hD hS hA rfl (fun j hj => (by decide +kernel : ∀ j, j < 8 → defaultValue (tyX7 j) = vp_V [.null, .null, .null, .null, .null, .int 0, .int 0, .int 0] j) j hj) (by decide +kernel) (by decide +kernel) d_Bc_init_84 (fun q8 H hP hD hS => ?_)
  refine lv_dup hx hb d_Bc_init_87 rfl ?_
  have hPx : va_P (dC, dI) vwCl (((h, .inr (8, f8)) :: a8) ++ [(q8, .inr (7, [.null, .null, .null, .null, .null, .int 0, .int 0, .int 0]))]) H := hP
  have hDx : va_D A (((h, .inr (8, f8)) :: a8) ++ [(q8, .inr (7, [.null, .null, .null, .null, .null, .int 0, .int 0, .int 0]))]) := hD
  have hPc := va_P_in hPx (w := [(q8, .inr (7, [.null, .null, .null, .null, .null, .int 0, .int 0, .int 0]))]) (fun q h => List.mem_append_right _ h)
  have hDc : va_D A [(q8, .inr (7, [.null, .null, .null, .null, .null, .int 0, .int 0, .int 0]))] := D_r hDx
  have hFc : ∀ q, va_A [(q8, .inr (7, [.null, .null, .null, .null, .null, .int 0, .int 0, .int 0]))] H.size q → A q := va_freeAll hDc hS hA
  refine wr_go (va_runIN (As := []) (rest := [.ref q8, .ref h]) ⟨hx, hb, hml, hown, hts⟩ (m_Tr_init l dC dI tC q8 H.size) ⟨va_cnB 0 hts (gd_O kC_Tr_init) rfl rfl rfl hN.2.2.2.2.1 (hts _ kZ_7) (by decide +kernel) ⟨(Nat.le_of_ble_eq_true rfl), (Nat.le_of_ble_eq_true rfl)⟩, rfl, hts _ kI_Tr_init⟩ ⟨wr_blind, wr_pre hK hPc hDc⟩ rfl rfl hl.1 rfl (lv_room (Nat.le_of_ble_eq_true rfl)) d_Bc_init_88 ⟨(by decide +kernel), (by decide +kernel)⟩) hS hFc (fun r w1 H1 locs hw hP1 hD1 hk1 hS => ?_)
  obtain ⟨rfl, dq8, rfl⟩ := hw
  obtain ⟨hP, hD⟩ := jn_A hPx hDx hk1 hFc hP1 hD1
  clear hP1 hD1 hk1 hPc hDc hFc hPx hDx
  refine W.eq (g2 := F0 m 91 ls [.ref q8, .ref h]) rfl ?_
  obtain ⟨a9, ha9⟩ : ∃ z : va_W, z = a8 ++ w_Tr_ q8 dq8 tC S0 := ⟨_, rfl⟩
  have hP : va_P (dC, dI) vwCl ((h, .inr (8, f8)) :: a9) H1 := by rw [ha9]; exact hP
  have hD : va_D A ((h, .inr (8, f8)) :: a9) := by rw [ha9]; exact hD
  refine va_putF (D := (dC, dI)) (ci := 8) (v := .ref q8) (ty := .object "BarCutting$Track") (C := RX8) (T := TX8) (N := 12) hx hb hts in_X8 tyX8 tyX8_ok nmX8 hown hK hP hD hS 0 (fs := f8) rfl rfl 8 (by decide) (hts _ kF_8_62) (fun _ h9 => h9) rfl hin rfl (by decide +kernel) rfl rfl (by rw [hn8]; decide) d_Bc_init_91 (fun H locs hP hD hS => ?_)
  obtain ⟨f9, hf9⟩ : ∃ z : List Value, z = f8.set 8 (.ref q8) := ⟨_, rfl⟩
  have hn9 : f9.length = 12 := by rw [hf9, List.length_set]; exact hn8
  have hP : va_P (dC, dI) vwCl ((h, .inr (8, f9)) :: a9) H := by rw [hf9]; exact hP
  have hD : va_D A ((h, .inr (8, f9)) :: a9) := by rw [hf9]; exact hD
  refine lv_aload_n hx hb d_Bc_init_94 rfl (lv_at hl 0 rfl) ?_
  refine va_new (ci := 7) (fs := [.null, .null, .null, .null, .null, .int 0, .int 0, .int 0]) (C := RX7) (T := TX7) (N := 8) hx hb hts in_X7 tyX7 tyX7_ok hown (hts _ kL_8_59) (hts _ kN_7) (hts _ kZ_7) hK hP hD hS hA rfl (fun j hj => (by decide +kernel : ∀ j, j < 8 → defaultValue (tyX7 j) = vp_V [.null, .null, .null, .null, .null, .int 0, .int 0, .int 0] j) j hj) (by decide +kernel) (by decide +kernel) d_Bc_init_95 (fun q9 H hP hD hS => ?_)
  refine lv_dup hx hb d_Bc_init_98 rfl ?_
  have hPx : va_P (dC, dI) vwCl (((h, .inr (8, f9)) :: a9) ++ [(q9, .inr (7, [.null, .null, .null, .null, .null, .int 0, .int 0, .int 0]))]) H := hP
  have hDx : va_D A (((h, .inr (8, f9)) :: a9) ++ [(q9, .inr (7, [.null, .null, .null, .null, .null, .int 0, .int 0, .int 0]))]) := hD
  have hPc := va_P_in hPx (w := [(q9, .inr (7, [.null, .null, .null, .null, .null, .int 0, .int 0, .int 0]))]) (fun q h => List.mem_append_right _ h)
  have hDc : va_D A [(q9, .inr (7, [.null, .null, .null, .null, .null, .int 0, .int 0, .int 0]))] := D_r hDx
  have hFc : ∀ q, va_A [(q9, .inr (7, [.null, .null, .null, .null, .null, .int 0, .int 0, .int 0]))] H.size q → A q := va_freeAll hDc hS hA
  refine wr_go (va_runIN (As := []) (rest := [.ref q9, .ref h]) ⟨hx, hb, hml, hown, hts⟩ (m_Tr_init l dC dI tC q9 H.size) ⟨va_cnB 0 hts (gd_O kC_Tr_init) rfl rfl rfl hN.2.2.2.2.1 (hts _ kZ_7) (by decide +kernel) ⟨(Nat.le_of_ble_eq_true rfl), (Nat.le_of_ble_eq_true rfl)⟩, rfl, hts _ kI_Tr_init⟩ ⟨wr_blind, wr_pre hK hPc hDc⟩ rfl rfl hl.1 rfl (lv_room (Nat.le_of_ble_eq_true rfl)) d_Bc_init_99 ⟨(by decide +kernel), (by decide +kernel)⟩) hS hFc (fun r w1 H1 locs hw hP1 hD1 hk1 hS => ?_)
  obtain ⟨rfl, dq9, rfl⟩ := hw
  obtain ⟨hP, hD⟩ := jn_A hPx hDx hk1 hFc hP1 hD1
  clear hP1 hD1 hk1 hPc hDc hFc hPx hDx
  refine W.eq (g2 := F0 m 102 ls [.ref q9, .ref h]) rfl ?_
  obtain ⟨a10, ha10⟩ : ∃ z : va_W, z = a9 ++ w_Tr_ q9 dq9 tC S0 := ⟨_, rfl⟩
  have hP : va_P (dC, dI) vwCl ((h, .inr (8, f9)) :: a10) H1 := by rw [ha10]; exact hP
  have hD : va_D A ((h, .inr (8, f9)) :: a10) := by rw [ha10]; exact hD
  refine va_putF (D := (dC, dI)) (ci := 8) (v := .ref q9) (ty := .object "BarCutting$Track") (C := RX8) (T := TX8) (N := 12) hx hb hts in_X8 tyX8 tyX8_ok nmX8 hown hK hP hD hS 0 (fs := f9) rfl rfl 9 (by decide) (hts _ kF_8_66) (fun _ h9 => h9) rfl hin rfl (by decide +kernel) rfl rfl (by rw [hn9]; decide) d_Bc_init_102 (fun H locs hP hD hS => ?_)
  obtain ⟨f10, hf10⟩ : ∃ z : List Value, z = f9.set 9 (.ref q9) := ⟨_, rfl⟩
  have hn10 : f10.length = 12 := by rw [hf10, List.length_set]; exact hn9
  have hP : va_P (dC, dI) vwCl ((h, .inr (8, f10)) :: a10) H := by rw [hf10]; exact hP
  have hD : va_D A ((h, .inr (8, f10)) :: a10) := by rw [hf10]; exact hD
  refine lv_aload_n hx hb d_Bc_init_105 rfl (lv_at hl 0 rfl) ?_
  refine lv_iconst (v := 0) hx hb d_Bc_init_106 (by decide) ?_
  refine va_put (D := (dC, dI)) (ci := 8) (v := .int 0) (ty := .int) (C := RX8) (T := TX8) (N := 12) hx hb hts in_X8 tyX8 tyX8_ok nmX8 hown hK hP hD hS 0 (fs := f10) rfl rfl 10 (by decide) (hts _ kF_8_69) (fun _ h9 => h9) rfl (by decide +kernel) rfl rfl (by rw [hn10]; decide) d_Bc_init_107 (fun H locs hP hD hS => ?_)
  obtain ⟨f11, hf11⟩ : ∃ z : List Value, z = f10.set 10 (.int 0) := ⟨_, rfl⟩
  have hn11 : f11.length = 12 := by rw [hf11, List.length_set]; exact hn10
  have hP : va_P (dC, dI) vwCl ((h, .inr (8, f11)) :: a10) H := by rw [hf11]; exact hP
  have hD : va_D A ((h, .inr (8, f11)) :: a10) := by rw [hf11]; exact hD
  refine lv_aload_n hx hb d_Bc_init_110 rfl (lv_at hl 0 rfl) ?_
  refine lv_iconst (v := 0) hx hb d_Bc_init_111 (by decide) ?_
  refine va_put (D := (dC, dI)) (ci := 8) (v := .int 0) (ty := .int) (C := RX8) (T := TX8) (N := 12) hx hb hts in_X8 tyX8 tyX8_ok nmX8 hown hK hP hD hS 0 (fs := f11) rfl rfl 11 (by decide) (hts _ kF_8_73) (fun _ h9 => h9) rfl (by decide +kernel) rfl rfl (by rw [hn11]; decide) d_Bc_init_112 (fun H locs hP hD hS => ?_)
  obtain ⟨f12, hf12⟩ : ∃ z : List Value, z = f11.set 11 (.int 0) := ⟨_, rfl⟩
  have hn12 : f12.length = 12 := by rw [hf12, List.length_set]; exact hn11
  have hP : va_P (dC, dI) vwCl ((h, .inr (8, f12)) :: a10) H := by rw [hf12]; exact hP
  have hD : va_D A ((h, .inr (8, f12)) :: a10) := by rw [hf12]; exact hD
  have ef : f12 = [.ref q0, .ref q1, .ref q2, .ref q3, .ref q4, .ref q5, .ref q6, .ref q7, .ref q8, .ref q9, .int 0, .int 0] := by
    rw [hf12, hf11, hf10, hf9, hf8, hf7, hf6, hf5, hf4, hf3, hf2, hf1, hf0]
    simp only [List.set_cons_zero, List.set_cons_succ]
  rw [ef, ha10, ha9, ha8, ha7, ha6, ha5, ha4, ha3, ha2, ha1, ha0] at hP hD
  have hP9 := hP.sub (ws' := (w_Bc_ h (fun j => if j = 100 then q0 else if j = 101 then q5 else if j = 102 then q6 else if j = 103 then q7 else if j = 104 then q8 else if j = 105 then q9 else [q1, q2, q3, q4].getD j 0) tC (fun _ _ => none) S0 ++ (w_Sg_ q0 dq0 tC S0 ++ (w_Tr_ q8 dq8 tC S0 ++ (w_Tr_ q9 dq9 tC S0 ++ (w_Ff_ q7 dq7 tC S0 ++ (w_Pl_ q5 dq5 tC S0 ++ w_Lw_ q6 dq6 tC S0))))))) [0, 3, 4, 5, 6, 1, 2, 26, 27, 28, 29, 30, 31, 32, 33, 34, 35, 36, 37, 24, 25, 7, 8, 9, 10, 11, 12, 13, 14, 15, 16, 17, 18, 19, 20, 21, 22, 23] rfl
  have hD9 := hD.sub (ws' := (w_Bc_ h (fun j => if j = 100 then q0 else if j = 101 then q5 else if j = 102 then q6 else if j = 103 then q7 else if j = 104 then q8 else if j = 105 then q9 else [q1, q2, q3, q4].getD j 0) tC (fun _ _ => none) S0 ++ (w_Sg_ q0 dq0 tC S0 ++ (w_Tr_ q8 dq8 tC S0 ++ (w_Tr_ q9 dq9 tC S0 ++ (w_Ff_ q7 dq7 tC S0 ++ (w_Pl_ q5 dq5 tC S0 ++ w_Lw_ q6 dq6 tC S0))))))) [0, 3, 4, 5, 6, 1, 2, 26, 27, 28, 29, 30, 31, 32, 33, 34, 35, 36, 37, 24, 25, 7, 8, 9, 10, 11, 12, 13, 14, 15, 16, 17, 18, 19, 20, 21, 22, 23] (by decide) rfl
  refine W.widen (k := 37) (n := 1261) (by decide +kernel) (by decide +kernel) ?_
  subst hQ
  subst hAe
  exact W.vret hx hb hr (fun t ht hW => ⟨⟨none, (w_Bc_ h (fun j => if j = 100 then q0 else if j = 101 then q5 else if j = 102 then q6 else if j = 103 then q7 else if j = 104 then q8 else if j = 105 then q9 else [q1, q2, q3, q4].getD j 0) tC (fun _ _ => none) S0 ++ (w_Sg_ q0 dq0 tC S0 ++ (w_Tr_ q8 dq8 tC S0 ++ (w_Tr_ q9 dq9 tC S0 ++ (w_Ff_ q7 dq7 tC S0 ++ (w_Pl_ q5 dq5 tC S0 ++ w_Lw_ q6 dq6 tC S0)))))), rfl, ⟨rfl, (fun j => if j = 100 then q0 else if j = 101 then q5 else if j = 102 then q6 else if j = 103 then q7 else if j = 104 then q8 else if j = 105 then q9 else [q1, q2, q3, q4].getD j 0), dq0, dq8, dq9, dq7, dq5, dq6, rfl⟩, by rw [ht]; exact hP9, hD9⟩, hS.F ht⟩) hS.2.2 d_Bc_init_115
