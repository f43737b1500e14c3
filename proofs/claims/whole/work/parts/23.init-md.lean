def rm_Md_init : Room := { frames := 1, cells := 36, slots := 4726, locals := 40 }
set_option maxHeartbeats 4000000 in
set_option maxRecDepth 100000 in
theorem m_Md_init (l : Launch) (dC : Nat → ClassId) (dI : Nat → Nat → Nat) (tC : Nat → ClassId) (h : Nat) (sz : Nat) : Met l y_Md_init w_Md_init rm_Md_init (wrP (dC, dI) tC [(h, .inr (9, [.null, .int 0, .int 0, .null, .null, .null, .int 0, .null, .null, .null, .null, .null, .null, .null, .null, .null, .null, .null, .null, .int 0, .null, .null, .null, .null, .null, .null, .null, .int 0, .int 0, .null, .null, .null, .null, .null, .int 0, .int 0, .int 0, .null, .null, .null, .null, .null, .null, .null, .null, .int 0]))] sz [.ref h]) (wrQ (dC, dI) [(h, .inr (9, [.null, .int 0, .int 0, .null, .null, .null, .int 0, .null, .null, .null, .null, .null, .null, .null, .null, .null, .null, .null, .null, .int 0, .null, .null, .null, .null, .null, .null, .null, .int 0, .int 0, .null, .null, .null, .null, .null, .int 0, .int 0, .int 0, .null, .null, .null, .null, .null, .null, .null, .null, .int 0]))] sz (fun r w => r = none ∧ ∃ ad : Nat → Nat, w = w_Md_ h ad tC S0)) 36 4726 (va_A [(h, .inr (9, [.null, .int 0, .int 0, .null, .null, .null, .int 0, .null, .null, .null, .null, .null, .null, .null, .null, .null, .null, .null, .null, .int 0, .null, .null, .null, .null, .null, .null, .null, .int 0, .int 0, .null, .null, .null, .null, .null, .int 0, .int 0, .int 0, .null, .null, .null, .null, .null, .null, .null, .null, .int 0]))] sz) := by
  refine Met.ofW (cc := c_Md_init) (maxL := 1) (ret := none) (by decide) rfl ?_
  intro p e s m args below meth c s₁ B hml hv
  obtain ⟨hav, hsz, hP, hK, hD0⟩ := hv
  have hx := B.exec
  have hb := B.bytes
  have hr := B.returns
  have hts : ∀ w ∈ gw, w.before args s = true := fun w h => atoms_spec (ws := w_Md_init) B.pre w (List.mem_cons_of_mem _ h)
  have hown : s.vm.findClass RX9 = some m.cls := findClass_of_methodNamed B.named
  have hlocks := B.notSynchronized
  have hin : meth.name = "<init>" := (name_of_methodNamed B.named B.method).1
  subst hsz
  have hD := hD0.self (sz := s.heap.size)
  obtain ⟨A, hAe⟩ : ∃ z, z = va_A [(h, .inr (9, [.null, .int 0, .int 0, .null, .null, .null, .int 0, .null, .null, .null, .null, .null, .null, .null, .null, .null, .null, .null, .null, .int 0, .null, .null, .null, .null, .null, .null, .null, .int 0, .int 0, .null, .null, .null, .null, .null, .int 0, .int 0, .int 0, .null, .null, .null, .null, .null, .null, .null, .null, .int 0]))] s.heap.size := ⟨_, rfl⟩
  rw [← hAe] at hD
  have hA : ∀ q : Nat, s.heap.size ≤ q → A q := fun q h => by rw [hAe]; exact Or.inr h
  have hS : va_S A s.heap s.heap [] := va_S.rf
  refine q_w (R := rm_Md_init) (fun Q hQ => ?_)
  refine en_w (av := [.ref h]) hav (Nat.le_of_ble_eq_true rfl) (fun ls hl => ?_)
  have hl : lv_has ls 1 [(0, .ref h)] := hl
  obtain ⟨f0, hf0⟩ : ∃ z : List Value, z = [.null, .int 0, .int 0, .null, .null, .null, .int 0, .null, .null, .null, .null, .null, .null, .null, .null, .null, .null, .null, .null, .int 0, .null, .null, .null, .null, .null, .null, .null, .int 0, .int 0, .null, .null, .null, .null, .null, .int 0, .int 0, .int 0, .null, .null, .null, .null, .null, .null, .null, .null, .int 0] := ⟨_, rfl⟩
  have hn0 : f0.length = 46 := by rw [hf0]; rfl
  obtain ⟨a0, ha0⟩ : ∃ z : va_W, z = [] := ⟨_, rfl⟩
  have hP : va_P (dC, dI) vwCl ((h, .inr (9, f0)) :: a0) s.heap := by rw [hf0, ha0]; exact hP
  have hD : va_D A ((h, .inr (9, f0)) :: a0) := by rw [hf0, ha0]; exact hD
  refine lv_aload_n hx hb d_Md_init_0 rfl (lv_at hl 0 rfl) ?_
  refine W.objInit hx hb hown (hts _ kM_9_1) (hts _ kI_obj) (hts _ kC_obj) rfl (by rw [hml]; exact hl.1) rfl d_Md_init_1 (Nat.le_of_ble_eq_true rfl) (Nat.le_of_ble_eq_true rfl) ?_
  refine W.eq (g2 := F0 m 4 ls []) rfl ?_
  refine lv_aload_n hx hb d_Md_init_4 rfl (lv_at hl 0 rfl) ?_
  refine lv_bipush (v := 40) hx hb d_Md_init_5 (by decide) ?_
  refine xa_new (atype := .int) (ty := .int) (n := 40) (N' := 40) (a0 := (40, .inl (fun _ => 0))) hx hb (hts _ kA_int) rfl hK 0 rfl (fun _ _ => rfl) hP hD hS hA (xv_int _) (by decide +kernel) (by decide +kernel) (by decide +kernel) (by decide +kernel) (by decide +kernel) d_Md_init_7 (fun q0 H hP hD hS => ?_)
  obtain ⟨a1, ha1⟩ : ∃ z : va_W, z = a0 ++ [(q0, .inl (tC 0, 40, .inl (fun _ => 0)))] := ⟨_, rfl⟩
  have hP : va_P (dC, dI) vwCl ((h, .inr (9, f0)) :: a1) H := by rw [ha1]; exact hP
  have hD : va_D A ((h, .inr (9, f0)) :: a1) := by rw [ha1]; exact hD
  refine va_putF (D := (dC, dI)) (ci := 9) (v := .ref q0) (ty := .array .int) (C := RX9) (T := TX9) (N := 46) hx hb hts in_X9 tyX9 tyX9_ok nmX9 hown hK hP hD hS 0 (fs := f0) rfl rfl 0 (by decide) (hts _ kF_9_7) (fun _ h9 => h9) rfl hin rfl (by decide +kernel) rfl rfl (by rw [hn0]; decide) d_Md_init_9 (fun H locs hP hD hS => ?_)
  obtain ⟨f1, hf1⟩ : ∃ z : List Value, z = f0.set 0 (.ref q0) := ⟨_, rfl⟩
  have hn1 : f1.length = 46 := by rw [hf1, List.length_set]; exact hn0
  have hP : va_P (dC, dI) vwCl ((h, .inr (9, f1)) :: a1) H := by rw [hf1]; exact hP
  have hD : va_D A ((h, .inr (9, f1)) :: a1) := by rw [hf1]; exact hD
  refine lv_aload_n hx hb d_Md_init_12 rfl (lv_at hl 0 rfl) ?_
  refine lv_bipush (v := 10) hx hb d_Md_init_13 (by decide) ?_
  refine xa_new (atype := .int) (ty := .int) (n := 10) (N' := 10) (a0 := (10, .inl (fun _ => 0))) hx hb (hts _ kA_int) rfl hK 0 rfl (fun _ _ => rfl) hP hD hS hA (xv_int _) (by decide +kernel) (by decide +kernel) (by decide +kernel) (by decide +kernel) (by decide +kernel) d_Md_init_15 (fun q1 H hP hD hS => ?_)
  obtain ⟨a2, ha2⟩ : ∃ z : va_W, z = a1 ++ [(q1, .inl (tC 0, 10, .inl (fun _ => 0)))] := ⟨_, rfl⟩
  have hP : va_P (dC, dI) vwCl ((h, .inr (9, f1)) :: a2) H := by rw [ha2]; exact hP
  have hD : va_D A ((h, .inr (9, f1)) :: a2) := by rw [ha2]; exact hD
  refine va_putF (D := (dC, dI)) (ci := 9) (v := .ref q1) (ty := .array .int) (C := RX9) (T := TX9) (N := 46) hx hb hts in_X9 tyX9 tyX9_ok nmX9 hown hK hP hD hS 0 (fs := f1) rfl rfl 3 (by decide) (hts _ kF_9_13) (fun _ h9 => h9) rfl hin rfl (by decide +kernel) rfl rfl (by rw [hn1]; decide) d_Md_init_17 (fun H locs hP hD hS => ?_)
  obtain ⟨f2, hf2⟩ : ∃ z : List Value, z = f1.set 3 (.ref q1) := ⟨_, rfl⟩
  have hn2 : f2.length = 46 := by rw [hf2, List.length_set]; exact hn1
  have hP : va_P (dC, dI) vwCl ((h, .inr (9, f2)) :: a2) H := by rw [hf2]; exact hP
  have hD : va_D A ((h, .inr (9, f2)) :: a2) := by rw [hf2]; exact hD
  refine lv_aload_n hx hb d_Md_init_20 rfl (lv_at hl 0 rfl) ?_
  refine lv_bipush (v := 60) hx hb d_Md_init_21 (by decide) ?_
  refine xa_new (atype := .int) (ty := .int) (n := 60) (N' := 60) (a0 := (60, .inl (fun _ => 0))) hx hb (hts _ kA_int) rfl hK 0 rfl (fun _ _ => rfl) hP hD hS hA (xv_int _) (by decide +kernel) (by decide +kernel) (by decide +kernel) (by decide +kernel) (by decide +kernel) d_Md_init_23 (fun q2 H hP hD hS => ?_)
  obtain ⟨a3, ha3⟩ : ∃ z : va_W, z = a2 ++ [(q2, .inl (tC 0, 60, .inl (fun _ => 0)))] := ⟨_, rfl⟩
  have hP : va_P (dC, dI) vwCl ((h, .inr (9, f2)) :: a3) H := by rw [ha3]; exact hP
  have hD : va_D A ((h, .inr (9, f2)) :: a3) := by rw [ha3]; exact hD
  refine va_putF (D := (dC, dI)) (ci := 9) (v := .ref q2) (ty := .array .int) (C := RX9) (T := TX9) (N := 46) hx hb hts in_X9 tyX9 tyX9_ok nmX9 hown hK hP hD hS 0 (fs := f2) rfl rfl 4 (by decide) (hts _ kF_9_16) (fun _ h9 => h9) rfl hin rfl (by decide +kernel) rfl rfl (by rw [hn2]; decide) d_Md_init_25 (fun H locs hP hD hS => ?_)
  obtain ⟨f3, hf3⟩ : ∃ z : List Value, z = f2.set 4 (.ref q2) := ⟨_, rfl⟩
  have hn3 : f3.length = 46 := by rw [hf3, List.length_set]; exact hn2
  have hP : va_P (dC, dI) vwCl ((h, .inr (9, f3)) :: a3) H := by rw [hf3]; exact hP
  have hD : va_D A ((h, .inr (9, f3)) :: a3) := by rw [hf3]; exact hD
  refine lv_aload_n hx hb d_Md_init_28 rfl (lv_at hl 0 rfl) ?_
  refine lv_bipush (v := 41) hx hb d_Md_init_29 (by decide) ?_
  refine xa_new (atype := .long) (ty := .long) (n := 41) (N' := 41) (a0 := (41, .inr (.inl (fun _ => 0)))) hx hb (hts _ kA_long) rfl hK 1 rfl (fun _ _ => rfl) hP hD hS hA (xv_long _) (by decide +kernel) (by decide +kernel) (by decide +kernel) (by decide +kernel) (by decide +kernel) d_Md_init_31 (fun q3 H hP hD hS => ?_)
  obtain ⟨a4, ha4⟩ : ∃ z : va_W, z = a3 ++ [(q3, .inl (tC 1, 41, .inr (.inl (fun _ => 0))))] := ⟨_, rfl⟩
  have hP : va_P (dC, dI) vwCl ((h, .inr (9, f3)) :: a4) H := by rw [ha4]; exact hP
  have hD : va_D A ((h, .inr (9, f3)) :: a4) := by rw [ha4]; exact hD
  refine va_putF (D := (dC, dI)) (ci := 9) (v := .ref q3) (ty := .array .long) (C := RX9) (T := TX9) (N := 46) hx hb hts in_X9 tyX9 tyX9_ok nmX9 hown hK hP hD hS 0 (fs := f3) rfl rfl 5 (by decide) (hts _ kF_9_19) (fun _ h9 => h9) rfl hin rfl (by decide +kernel) rfl rfl (by rw [hn3]; decide) d_Md_init_33 (fun H locs hP hD hS => ?_)
  obtain ⟨f4, hf4⟩ : ∃ z : List Value, z = f3.set 5 (.ref q3) := ⟨_, rfl⟩
  have hn4 : f4.length = 46 := by rw [hf4, List.length_set]; exact hn3
  have hP : va_P (dC, dI) vwCl ((h, .inr (9, f4)) :: a4) H := by rw [hf4]; exact hP
  have hD : va_D A ((h, .inr (9, f4)) :: a4) := by rw [hf4]; exact hD
  refine lv_aload_n hx hb d_Md_init_36 rfl (lv_at hl 0 rfl) ?_
  refine lv_bipush (v := 12) hx hb d_Md_init_37 (by decide) ?_
  refine xa_new (atype := .int) (ty := .int) (n := 12) (N' := 12) (a0 := (12, .inl (fun _ => 0))) hx hb (hts _ kA_int) rfl hK 0 rfl (fun _ _ => rfl) hP hD hS hA (xv_int _) (by decide +kernel) (by decide +kernel) (by decide +kernel) (by decide +kernel) (by decide +kernel) d_Md_init_39 (fun q4 H hP hD hS => ?_)
  obtain ⟨a5, ha5⟩ : ∃ z : va_W, z = a4 ++ [(q4, .inl (tC 0, 12, .inl (fun _ => 0)))] := ⟨_, rfl⟩
  have hP : va_P (dC, dI) vwCl ((h, .inr (9, f4)) :: a5) H := by rw [ha5]; exact hP
  have hD : va_D A ((h, .inr (9, f4)) :: a5) := by rw [ha5]; exact hD
  refine va_putF (D := (dC, dI)) (ci := 9) (v := .ref q4) (ty := .array .int) (C := RX9) (T := TX9) (N := 46) hx hb hts in_X9 tyX9 tyX9_ok nmX9 hown hK hP hD hS 0 (fs := f4) rfl rfl 7 (by decide) (hts _ kF_9_23) (fun _ h9 => h9) rfl hin rfl (by decide +kernel) rfl rfl (by rw [hn4]; decide) d_Md_init_41 (fun H locs hP hD hS => ?_)
  obtain ⟨f5, hf5⟩ : ∃ z : List Value, z = f4.set 7 (.ref q4) := ⟨_, rfl⟩
  have hn5 : f5.length = 46 := by rw [hf5, List.length_set]; exact hn4
  have hP : va_P (dC, dI) vwCl ((h, .inr (9, f5)) :: a5) H := by rw [hf5]; exact hP
  have hD : va_D A ((h, .inr (9, f5)) :: a5) := by rw [hf5]; exact hD
  refine lv_aload_n hx hb d_Md_init_44 rfl (lv_at hl 0 rfl) ?_
  refine lv_bipush (v := 12) hx hb d_Md_init_45 (by decide) ?_
  refine xa_new (atype := .int) (ty := .int) (n := 12) (N' := 12) (a0 := (12, .inl (fun _ => 0))) hx hb (hts _ kA_int) rfl hK 0 rfl (fun _ _ => rfl) hP hD hS hA (xv_int _) (by decide +kernel) (by decide +kernel) (by decide +kernel) (by decide +kernel) (by decide +kernel) d_Md_init_47 (fun q5 H hP hD hS => ?_)
  obtain ⟨a6, ha6⟩ : ∃ z : va_W, z = a5 ++ [(q5, .inl (tC 0, 12, .inl (fun _ => 0)))] := ⟨_, rfl⟩
  have hP : va_P (dC, dI) vwCl ((h, .inr (9, f5)) :: a6) H := by rw [ha6]; exact hP
  have hD : va_D A ((h, .inr (9, f5)) :: a6) := by rw [ha6]; exact hD
  refine va_putF (D := (dC, dI)) (ci := 9) (v := .ref q5) (ty := .array .int) (C := RX9) (T := TX9) (N := 46) hx hb hts in_X9 tyX9 tyX9_ok nmX9 hown hK hP hD hS 0 (fs := f5) rfl rfl 8 (by decide) (hts _ kF_9_26) (fun _ h9 => h9) rfl hin rfl (by decide +kernel) rfl rfl (by rw [hn5]; decide) d_Md_init_49 (fun H locs hP hD hS => ?_)
  obtain ⟨f6, hf6⟩ : ∃ z : List Value, z = f5.set 8 (.ref q5) := ⟨_, rfl⟩
  have hn6 : f6.length = 46 := by rw [hf6, List.length_set]; exact hn5
  have hP : va_P (dC, dI) vwCl ((h, .inr (9, f6)) :: a6) H := by rw [hf6]; exact hP
  have hD : va_D A ((h, .inr (9, f6)) :: a6) := by rw [hf6]; exact hD
  refine lv_aload_n hx hb d_Md_init_52 rfl (lv_at hl 0 rfl) ?_
  refine lv_bipush (v := 12) hx hb d_Md_init_53 (by decide) ?_
  refine xa_new (atype := .int) (ty := .int) (n := 12) (N' := 12) (a0 := (12, .inl (fun _ => 0))) hx hb (hts _ kA_int) rfl hK 0 rfl (fun _ _ => rfl) hP hD hS hA (xv_int _) (by decide +kernel) (by decide +kernel) (by decide +kernel) (by decide +kernel) (by decide +kernel) d_Md_init_55 (fun q6 H hP hD hS => ?_)
  obtain ⟨a7, ha7⟩ : ∃ z : va_W, z = a6 ++ [(q6, .inl (tC 0, 12, .inl (fun _ => 0)))] := ⟨_, rfl⟩
  have hP : va_P (dC, dI) vwCl ((h, .inr (9, f6)) :: a7) H := by rw [ha7]; exact hP
  have hD : va_D A ((h, .inr (9, f6)) :: a7) := by rw [ha7]; exact hD
  refine va_putF (D := (dC, dI)) (ci := 9) (v := .ref q6) (ty := .array .int) (C := RX9) (T := TX9) (N := 46) hx hb hts in_X9 tyX9 tyX9_ok nmX9 hown hK hP hD hS 0 (fs := f6) rfl rfl 9 (by decide) (hts _ kF_9_29) (fun _ h9 => h9) rfl hin rfl (by decide +kernel) rfl rfl (by rw [hn6]; decide) d_Md_init_57 (fun H locs hP hD hS => ?_)
  obtain ⟨f7, hf7⟩ : ∃ z : List Value, z = f6.set 9 (.ref q6) := ⟨_, rfl⟩
  have hn7 : f7.length = 46 := by rw [hf7, List.length_set]; exact hn6
  have hP : va_P (dC, dI) vwCl ((h, .inr (9, f7)) :: a7) H := by rw [hf7]; exact hP
  have hD : va_D A ((h, .inr (9, f7)) :: a7) := by rw [hf7]; exact hD
  refine lv_aload_n hx hb d_Md_init_60 rfl (lv_at hl 0 rfl) ?_
  refine lv_bipush (v := 72) hx hb d_Md_init_61 (by decide) ?_
  refine xa_new (atype := .long) (ty := .long) (n := 72) (N' := 72) (a0 := (72, .inr (.inl (fun _ => 0)))) hx hb (hts _ kA_long) rfl hK 1 rfl (fun _ _ => rfl) hP hD hS hA (xv_long _) (by decide +kernel) (by decide +kernel) (by decide +kernel) (by decide +kernel) (by decide +kernel) d_Md_init_63 (fun q7 H hP hD hS => ?_)
  obtain ⟨a8, ha8⟩ : ∃ z : va_W, z = a7 ++ [(q7, .inl (tC 1, 72, .inr (.inl (fun _ => 0))))] := ⟨_, rfl⟩
  have hP : va_P (dC, dI) vwCl ((h, .inr (9, f7)) :: a8) H := by rw [ha8]; exact hP
  have hD : va_D A ((h, .inr (9, f7)) :: a8) := by rw [ha8]; exact hD
  refine va_putF (D := (dC, dI)) (ci := 9) (v := .ref q7) (ty := .array .long) (C := RX9) (T := TX9) (N := 46) hx hb hts in_X9 tyX9 tyX9_ok nmX9 hown hK hP hD hS 0 (fs := f7) rfl rfl 10 (by decide) (hts _ kF_9_32) (fun _ h9 => h9) rfl hin rfl (by decide +kernel) rfl rfl (by rw [hn7]; decide) d_Md_init_65 (fun H locs hP hD hS => ?_)
  obtain ⟨f8, hf8⟩ : ∃ z : List Value, z = f7.set 10 (.ref q7) := ⟨_, rfl⟩
  have hn8 : f8.length = 46 := by rw [hf8, List.length_set]; exact hn7
  have hP : va_P (dC, dI) vwCl ((h, .inr (9, f8)) :: a8) H := by rw [hf8]; exact hP
  have hD : va_D A ((h, .inr (9, f8)) :: a8) := by rw [hf8]; exact hD
  refine lv_aload_n hx hb d_Md_init_68 rfl (lv_at hl 0 rfl) ?_
  refine lv_bipush (v := 12) hx hb d_Md_init_69 (by decide) ?_
  refine xa_new (atype := .boolean) (ty := .boolean) (n := 12) (N' := 12) (a0 := (12, .inl (fun _ => 0))) hx hb (hts _ kA_boolean) rfl hK 3 rfl (fun _ _ => rfl) hP hD hS hA (xv_boolean _) (by decide +kernel) (by decide +kernel) (by decide +kernel) (by decide +kernel) (by decide +kernel) d_Md_init_71 (fun q8 H hP hD hS => ?_)
  obtain ⟨a9, ha9⟩ : ∃ z : va_W, z = a8 ++ [(q8, .inl (tC 3, 12, .inl (fun _ => 0)))] := ⟨_, rfl⟩
  have hP : va_P (dC, dI) vwCl ((h, .inr (9, f8)) :: a9) H := by rw [ha9]; exact hP
  have hD : va_D A ((h, .inr (9, f8)) :: a9) := by rw [ha9]; exact hD
  refine va_putF (D := (dC, dI)) (ci := 9) (v := .ref q8) (ty := .array .boolean) (C := RX9) (T := TX9) (N := 46) hx hb hts in_X9 tyX9 tyX9_ok nmX9 hown hK hP hD hS 0 (fs := f8) rfl rfl 11 (by decide) (hts _ kF_9_35) (fun _ h9 => h9) rfl hin rfl (by decide +kernel) rfl rfl (by rw [hn8]; decide) d_Md_init_73 (fun H locs hP hD hS => ?_)
  obtain ⟨f9, hf9⟩ : ∃ z : List Value, z = f8.set 11 (.ref q8) := ⟨_, rfl⟩
  have hn9 : f9.length = 46 := by rw [hf9, List.length_set]; exact hn8
  have hP : va_P (dC, dI) vwCl ((h, .inr (9, f9)) :: a9) H := by rw [hf9]; exact hP
  have hD : va_D A ((h, .inr (9, f9)) :: a9) := by rw [hf9]; exact hD
  refine lv_aload_n hx hb d_Md_init_76 rfl (lv_at hl 0 rfl) ?_
  refine lv_bipush (v := 12) hx hb d_Md_init_77 (by decide) ?_
  refine xa_new (atype := .long) (ty := .long) (n := 12) (N' := 12) (a0 := (12, .inr (.inl (fun _ => 0)))) hx hb (hts _ kA_long) rfl hK 1 rfl (fun _ _ => rfl) hP hD hS hA (xv_long _) (by decide +kernel) (by decide +kernel) (by decide +kernel) (by decide +kernel) (by decide +kernel) d_Md_init_79 (fun q9 H hP hD hS => ?_)
  obtain ⟨a10, ha10⟩ : ∃ z : va_W, z = a9 ++ [(q9, .inl (tC 1, 12, .inr (.inl (fun _ => 0))))] := ⟨_, rfl⟩
  have hP : va_P (dC, dI) vwCl ((h, .inr (9, f9)) :: a10) H := by rw [ha10]; exact hP
  have hD : va_D A ((h, .inr (9, f9)) :: a10) := by rw [ha10]; exact hD
  refine va_putF (D := (dC, dI)) (ci := 9) (v := .ref q9) (ty := .array .long) (C := RX9) (T := TX9) (N := 46) hx hb hts in_X9 tyX9 tyX9_ok nmX9 hown hK hP hD hS 0 (fs := f9) rfl rfl 12 (by decide) (hts _ kF_9_39) (fun _ h9 => h9) rfl hin rfl (by decide +kernel) rfl rfl (by rw [hn9]; decide) d_Md_init_81 (fun H locs hP hD hS => ?_)
  obtain ⟨f10, hf10⟩ : ∃ z : List Value, z = f9.set 12 (.ref q9) := ⟨_, rfl⟩
  have hn10 : f10.length = 46 := by rw [hf10, List.length_set]; exact hn9
  have hP : va_P (dC, dI) vwCl ((h, .inr (9, f10)) :: a10) H := by rw [hf10]; exact hP
  have hD : va_D A ((h, .inr (9, f10)) :: a10) := by rw [hf10]; exact hD
  refine lv_aload_n hx hb d_Md_init_84 rfl (lv_at hl 0 rfl) ?_
  refine lv_bipush (v := 12) hx hb d_Md_init_85 (by decide) ?_
  refine xa_new (atype := .long) (ty := .long) (n := 12) (N' := 12) (a0 := (12, .inr (.inl (fun _ => 0)))) hx hb (hts _ kA_long) rfl hK 1 rfl (fun _ _ => rfl) hP hD hS hA (xv_long _) (by decide +kernel) (by decide +kernel) (by decide +kernel) (by decide +kernel) (by decide +kernel) d_Md_init_87 (fun q10 H hP hD hS => ?_)
  obtain ⟨a11, ha11⟩ : ∃ z : va_W, z = a10 ++ [(q10, .inl (tC 1, 12, .inr (.inl (fun _ => 0))))] := ⟨_, rfl⟩
  have hP : va_P (dC, dI) vwCl ((h, .inr (9, f10)) :: a11) H := by rw [ha11]; exact hP
  have hD : va_D A ((h, .inr (9, f10)) :: a11) := by rw [ha11]; exact hD
  refine va_putF (D := (dC, dI)) (ci := 9) (v := .ref q10) (ty := .array .long) (C := RX9) (T := TX9) (N := 46) hx hb hts in_X9 tyX9 tyX9_ok nmX9 hown hK hP hD hS 0 (fs := f10) rfl rfl 13 (by decide) (hts _ kF_9_42) (fun _ h9 => h9) rfl hin rfl (by decide +kernel) rfl rfl (by rw [hn10]; decide) d_Md_init_89 (fun H locs hP hD hS => ?_)
  obtain ⟨f11, hf11⟩ : ∃ z : List Value, z = f10.set 13 (.ref q10) := ⟨_, rfl⟩
  have hn11 : f11.length = 46 := by rw [hf11, List.length_set]; exact hn10
  have hP : va_P (dC, dI) vwCl ((h, .inr (9, f11)) :: a11) H := by rw [hf11]; exact hP
  have hD : va_D A ((h, .inr (9, f11)) :: a11) := by rw [hf11]; exact hD
  refine lv_aload_n hx hb d_Md_init_92 rfl (lv_at hl 0 rfl) ?_
  refine lv_bipush (v := 12) hx hb d_Md_init_93 (by decide) ?_
  refine xa_new (atype := .long) (ty := .long) (n := 12) (N' := 12) (a0 := (12, .inr (.inl (fun _ => 0)))) hx hb (hts _ kA_long) rfl hK 1 rfl (fun _ _ => rfl) hP hD hS hA (xv_long _) (by decide +kernel) (by decide +kernel) (by decide +kernel) (by decide +kernel) (by decide +kernel) d_Md_init_95 (fun q11 H hP hD hS => ?_)
  obtain ⟨a12, ha12⟩ : ∃ z : va_W, z = a11 ++ [(q11, .inl (tC 1, 12, .inr (.inl (fun _ => 0))))] := ⟨_, rfl⟩
  have hP : va_P (dC, dI) vwCl ((h, .inr (9, f11)) :: a12) H := by rw [ha12]; exact hP
  have hD : va_D A ((h, .inr (9, f11)) :: a12) := by rw [ha12]; exact hD
  refine va_putF (D := (dC, dI)) (ci := 9) (v := .ref q11) (ty := .array .long) (C := RX9) (T := TX9) (N := 46) hx hb hts in_X9 tyX9 tyX9_ok nmX9 hown hK hP hD hS 0 (fs := f11) rfl rfl 14 (by decide) (hts _ kF_9_45) (fun _ h9 => h9) rfl hin rfl (by decide +kernel) rfl rfl (by rw [hn11]; decide) d_Md_init_97 (fun H locs hP hD hS => ?_)
  obtain ⟨f12, hf12⟩ : ∃ z : List Value, z = f11.set 14 (.ref q11) := ⟨_, rfl⟩
  have hn12 : f12.length = 46 := by rw [hf12, List.length_set]; exact hn11
  have hP : va_P (dC, dI) vwCl ((h, .inr (9, f12)) :: a12) H := by rw [hf12]; exact hP
  have hD : va_D A ((h, .inr (9, f12)) :: a12) := by rw [hf12]; exact hD
  refine lv_aload_n hx hb d_Md_init_100 rfl (lv_at hl 0 rfl) ?_
  refine lv_bipush (v := 41) hx hb d_Md_init_101 (by decide) ?_
  refine xa_new (atype := .int) (ty := .int) (n := 41) (N' := 41) (a0 := (41, .inl (fun _ => 0))) hx hb (hts _ kA_int) rfl hK 0 rfl (fun _ _ => rfl) hP hD hS hA (xv_int _) (by decide +kernel) (by decide +kernel) (by decide +kernel) (by decide +kernel) (by decide +kernel) d_Md_init_103 (fun q12 H hP hD hS => ?_)
  obtain ⟨a13, ha13⟩ : ∃ z : va_W, z = a12 ++ [(q12, .inl (tC 0, 41, .inl (fun _ => 0)))] := ⟨_, rfl⟩
  have hP : va_P (dC, dI) vwCl ((h, .inr (9, f12)) :: a13) H := by rw [ha13]; exact hP
  have hD : va_D A ((h, .inr (9, f12)) :: a13) := by rw [ha13]; exact hD
  refine va_putF (D := (dC, dI)) (ci := 9) (v := .ref q12) (ty := .array .int) (C := RX9) (T := TX9) (N := 46) hx hb hts in_X9 tyX9 tyX9_ok nmX9 hown hK hP hD hS 0 (fs := f12) rfl rfl 15 (by decide) (hts _ kF_9_48) (fun _ h9 => h9) rfl hin rfl (by decide +kernel) rfl rfl (by rw [hn12]; decide) d_Md_init_105 (fun H locs hP hD hS => ?_)
  obtain ⟨f13, hf13⟩ : ∃ z : List Value, z = f12.set 15 (.ref q12) := ⟨_, rfl⟩
  have hn13 : f13.length = 46 := by rw [hf13, List.length_set]; exact hn12
  have hP : va_P (dC, dI) vwCl ((h, .inr (9, f13)) :: a13) H := by rw [hf13]; exact hP
  have hD : va_D A ((h, .inr (9, f13)) :: a13) := by rw [hf13]; exact hD
  refine lv_aload_n hx hb d_Md_init_108 rfl (lv_at hl 0 rfl) ?_
  refine lv_bipush (v := 123) hx hb d_Md_init_109 (by decide) ?_
  refine xa_new (atype := .long) (ty := .long) (n := 123) (N' := 123) (a0 := (123, .inr (.inl (fun _ => 0)))) hx hb (hts _ kA_long) rfl hK 1 rfl (fun _ _ => rfl) hP hD hS hA (xv_long _) (by decide +kernel) (by decide +kernel) (by decide +kernel) (by decide +kernel) (by decide +kernel) d_Md_init_111 (fun q13 H hP hD hS => ?_)
  obtain ⟨a14, ha14⟩ : ∃ z : va_W, z = a13 ++ [(q13, .inl (tC 1, 123, .inr (.inl (fun _ => 0))))] := ⟨_, rfl⟩
  have hP : va_P (dC, dI) vwCl ((h, .inr (9, f13)) :: a14) H := by rw [ha14]; exact hP
  have hD : va_D A ((h, .inr (9, f13)) :: a14) := by rw [ha14]; exact hD
  refine va_putF (D := (dC, dI)) (ci := 9) (v := .ref q13) (ty := .array .long) (C := RX9) (T := TX9) (N := 46) hx hb hts in_X9 tyX9 tyX9_ok nmX9 hown hK hP hD hS 0 (fs := f13) rfl rfl 16 (by decide) (hts _ kF_9_51) (fun _ h9 => h9) rfl hin rfl (by decide +kernel) rfl rfl (by rw [hn13]; decide) d_Md_init_113 (fun H locs hP hD hS => ?_)
  obtain ⟨f14, hf14⟩ : ∃ z : List Value, z = f13.set 16 (.ref q13) := ⟨_, rfl⟩
  have hn14 : f14.length = 46 := by rw [hf14, List.length_set]; exact hn13
  have hP : va_P (dC, dI) vwCl ((h, .inr (9, f14)) :: a14) H := by rw [hf14]; exact hP
  have hD : va_D A ((h, .inr (9, f14)) :: a14) := by rw [hf14]; exact hD
  refine lv_aload_n hx hb d_Md_init_116 rfl (lv_at hl 0 rfl) ?_
  refine lv_bipush (v := 123) hx hb d_Md_init_117 (by decide) ?_
  refine xa_new (atype := .int) (ty := .int) (n := 123) (N' := 123) (a0 := (123, .inl (fun _ => 0))) hx hb (hts _ kA_int) rfl hK 0 rfl (fun _ _ => rfl) hP hD hS hA (xv_int _) (by decide +kernel) (by decide +kernel) (by decide +kernel) (by decide +kernel) (by decide +kernel) d_Md_init_119 (fun q14 H hP hD hS => ?_)
  obtain ⟨a15, ha15⟩ : ∃ z : va_W, z = a14 ++ [(q14, .inl (tC 0, 123, .inl (fun _ => 0)))] := ⟨_, rfl⟩
  have hP : va_P (dC, dI) vwCl ((h, .inr (9, f14)) :: a15) H := by rw [ha15]; exact hP
  have hD : va_D A ((h, .inr (9, f14)) :: a15) := by rw [ha15]; exact hD
  refine va_putF (D := (dC, dI)) (ci := 9) (v := .ref q14) (ty := .array .int) (C := RX9) (T := TX9) (N := 46) hx hb hts in_X9 tyX9 tyX9_ok nmX9 hown hK hP hD hS 0 (fs := f14) rfl rfl 17 (by decide) (hts _ kF_9_54) (fun _ h9 => h9) rfl hin rfl (by decide +kernel) rfl rfl (by rw [hn14]; decide) d_Md_init_121 (fun H locs hP hD hS => ?_)
  obtain ⟨f15, hf15⟩ : ∃ z : List Value, z = f14.set 17 (.ref q14) := ⟨_, rfl⟩
  have hn15 : f15.length = 46 := by rw [hf15, List.length_set]; exact hn14
  have hP : va_P (dC, dI) vwCl ((h, .inr (9, f15)) :: a15) H := by rw [hf15]; exact hP
  have hD : va_D A ((h, .inr (9, f15)) :: a15) := by rw [hf15]; exact hD
  refine lv_aload_n hx hb d_Md_init_124 rfl (lv_at hl 0 rfl) ?_
  refine lv_iconst (v := 3) hx hb d_Md_init_125 (by decide) ?_
  refine xa_new (atype := .int) (ty := .int) (n := 3) (N' := 3) (a0 := (3, .inl (fun _ => 0))) hx hb (hts _ kA_int) rfl hK 0 rfl (fun _ _ => rfl) hP hD hS hA (xv_int _) (by decide +kernel) (by decide +kernel) (by decide +kernel) (by decide +kernel) (by decide +kernel) d_Md_init_126 (fun q15 H hP hD hS => ?_)
  obtain ⟨a16, ha16⟩ : ∃ z : va_W, z = a15 ++ [(q15, .inl (tC 0, 3, .inl (fun _ => 0)))] := ⟨_, rfl⟩
  have hP : va_P (dC, dI) vwCl ((h, .inr (9, f15)) :: a16) H := by rw [ha16]; exact hP
  have hD : va_D A ((h, .inr (9, f15)) :: a16) := by rw [ha16]; exact hD
  refine va_putF (D := (dC, dI)) (ci := 9) (v := .ref q15) (ty := .array .int) (C := RX9) (T := TX9) (N := 46) hx hb hts in_X9 tyX9 tyX9_ok nmX9 hown hK hP hD hS 0 (fs := f15) rfl rfl 18 (by decide) (hts _ kF_9_57) (fun _ h9 => h9) rfl hin rfl (by decide +kernel) rfl rfl (by rw [hn15]; decide) d_Md_init_128 (fun H locs hP hD hS => ?_)
  obtain ⟨f16, hf16⟩ : ∃ z : List Value, z = f15.set 18 (.ref q15) := ⟨_, rfl⟩
  have hn16 : f16.length = 46 := by rw [hf16, List.length_set]; exact hn15
  have hP : va_P (dC, dI) vwCl ((h, .inr (9, f16)) :: a16) H := by rw [hf16]; exact hP
  have hD : va_D A ((h, .inr (9, f16)) :: a16) := by rw [hf16]; exact hD
  refine lv_aload_n hx hb d_Md_init_131 rfl (lv_at hl 0 rfl) ?_
  refine lv_bipush (v := 60) hx hb d_Md_init_132 (by decide) ?_
  refine xa_new (atype := .int) (ty := .int) (n := 60) (N' := 60) (a0 := (60, .inl (fun _ => 0))) hx hb (hts _ kA_int) rfl hK 0 rfl (fun _ _ => rfl) hP hD hS hA (xv_int _) (by decide +kernel) (by decide +kernel) (by decide +kernel) (by decide +kernel) (by decide +kernel) d_Md_init_134 (fun q16 H hP hD hS => ?_)
  obtain ⟨a17, ha17⟩ : ∃ z : va_W, z = a16 ++ [(q16, .inl (tC 0, 60, .inl (fun _ => 0)))] := ⟨_, rfl⟩
  have hP : va_P (dC, dI) vwCl ((h, .inr (9, f16)) :: a17) H := by rw [ha17]; exact hP
  have hD : va_D A ((h, .inr (9, f16)) :: a17) := by rw [ha17]; exact hD
  refine va_putF (D := (dC, dI)) (ci := 9) (v := .ref q16) (ty := .array .int) (C := RX9) (T := TX9) (N := 46) hx hb hts in_X9 tyX9 tyX9_ok nmX9 hown hK hP hD hS 0 (fs := f16) rfl rfl 20 (by decide) (hts _ kF_9_60) (fun _ h9 => h9) rfl hin rfl (by decide +kernel) rfl rfl (by rw [hn16]; decide) d_Md_init_136 (fun H locs hP hD hS => ?_)
  obtain ⟨f17, hf17⟩ : ∃ z : List Value, z = f16.set 20 (.ref q16) := ⟨_, rfl⟩
  have hn17 : f17.length = 46 := by rw [hf17, List.length_set]; exact hn16
  have hP : va_P (dC, dI) vwCl ((h, .inr (9, f17)) :: a17) H := by rw [hf17]; exact hP
  have hD : va_D A ((h, .inr (9, f17)) :: a17) := by rw [hf17]; exact hD
  refine lv_aload_n hx hb d_Md_init_139 rfl (lv_at hl 0 rfl) ?_
  refine lv_bipush (v := 60) hx hb d_Md_init_140 (by decide) ?_
  refine xa_new (atype := .long) (ty := .long) (n := 60) (N' := 60) (a0 := (60, .inr (.inl (fun _ => 0)))) hx hb (hts _ kA_long) rfl hK 1 rfl (fun _ _ => rfl) hP hD hS hA (xv_long _) (by decide +kernel) (by decide +kernel) (by decide +kernel) (by decide +kernel) (by decide +kernel) d_Md_init_142 (fun q17 H hP hD hS => ?_)
  obtain ⟨a18, ha18⟩ : ∃ z : va_W, z = a17 ++ [(q17, .inl (tC 1, 60, .inr (.inl (fun _ => 0))))] := ⟨_, rfl⟩
  have hP : va_P (dC, dI) vwCl ((h, .inr (9, f17)) :: a18) H := by rw [ha18]; exact hP
  have hD : va_D A ((h, .inr (9, f17)) :: a18) := by rw [ha18]; exact hD
  refine va_putF (D := (dC, dI)) (ci := 9) (v := .ref q17) (ty := .array .long) (C := RX9) (T := TX9) (N := 46) hx hb hts in_X9 tyX9 tyX9_ok nmX9 hown hK hP hD hS 0 (fs := f17) rfl rfl 21 (by decide) (hts _ kF_9_63) (fun _ h9 => h9) rfl hin rfl (by decide +kernel) rfl rfl (by rw [hn17]; decide) d_Md_init_144 (fun H locs hP hD hS => ?_)
  obtain ⟨f18, hf18⟩ : ∃ z : List Value, z = f17.set 21 (.ref q17) := ⟨_, rfl⟩
  have hn18 : f18.length = 46 := by rw [hf18, List.length_set]; exact hn17
  have hP : va_P (dC, dI) vwCl ((h, .inr (9, f18)) :: a18) H := by rw [hf18]; exact hP
  have hD : va_D A ((h, .inr (9, f18)) :: a18) := by rw [hf18]; exact hD
  refine lv_aload_n hx hb d_Md_init_147 rfl (lv_at hl 0 rfl) ?_
  refine lv_bipush (v := 9) hx hb d_Md_init_148 (by decide) ?_
  refine xa_new (atype := .int) (ty := .int) (n := 9) (N' := 9) (a0 := (9, .inl (fun _ => 0))) hx hb (hts _ kA_int) rfl hK 0 rfl (fun _ _ => rfl) hP hD hS hA (xv_int _) (by decide +kernel) (by decide +kernel) (by decide +kernel) (by decide +kernel) (by decide +kernel) d_Md_init_150 (fun q18 H hP hD hS => ?_)
  obtain ⟨a19, ha19⟩ : ∃ z : va_W, z = a18 ++ [(q18, .inl (tC 0, 9, .inl (fun _ => 0)))] := ⟨_, rfl⟩
  have hP : va_P (dC, dI) vwCl ((h, .inr (9, f18)) :: a19) H := by rw [ha19]; exact hP
  have hD : va_D A ((h, .inr (9, f18)) :: a19) := by rw [ha19]; exact hD
  refine va_putF (D := (dC, dI)) (ci := 9) (v := .ref q18) (ty := .array .int) (C := RX9) (T := TX9) (N := 46) hx hb hts in_X9 tyX9 tyX9_ok nmX9 hown hK hP hD hS 0 (fs := f18) rfl rfl 22 (by decide) (hts _ kF_9_66) (fun _ h9 => h9) rfl hin rfl (by decide +kernel) rfl rfl (by rw [hn18]; decide) d_Md_init_152 (fun H locs hP hD hS => ?_)
  obtain ⟨f19, hf19⟩ : ∃ z : List Value, z = f18.set 22 (.ref q18) := ⟨_, rfl⟩
  have hn19 : f19.length = 46 := by rw [hf19, List.length_set]; exact hn18
  have hP : va_P (dC, dI) vwCl ((h, .inr (9, f19)) :: a19) H := by rw [hf19]; exact hP
  have hD : va_D A ((h, .inr (9, f19)) :: a19) := by rw [hf19]; exact hD
  refine lv_aload_n hx hb d_Md_init_155 rfl (lv_at hl 0 rfl) ?_
  refine lv_bipush (v := 9) hx hb d_Md_init_156 (by decide) ?_
  refine xa_new (atype := .int) (ty := .int) (n := 9) (N' := 9) (a0 := (9, .inl (fun _ => 0))) hx hb (hts _ kA_int) rfl hK 0 rfl (fun _ _ => rfl) hP hD hS hA (xv_int _) (by decide +kernel) (by decide +kernel) (by decide +kernel) (by decide +kernel) (by decide +kernel) d_Md_init_158 (fun q19 H hP hD hS => ?_)
  obtain ⟨a20, ha20⟩ : ∃ z : va_W, z = a19 ++ [(q19, .inl (tC 0, 9, .inl (fun _ => 0)))] := ⟨_, rfl⟩
  have hP : va_P (dC, dI) vwCl ((h, .inr (9, f19)) :: a20) H := by rw [ha20]; exact hP
  have hD : va_D A ((h, .inr (9, f19)) :: a20) := by rw [ha20]; exact hD
  refine va_putF (D := (dC, dI)) (ci := 9) (v := .ref q19) (ty := .array .int) (C := RX9) (T := TX9) (N := 46) hx hb hts in_X9 tyX9 tyX9_ok nmX9 hown hK hP hD hS 0 (fs := f19) rfl rfl 23 (by decide) (hts _ kF_9_69) (fun _ h9 => h9) rfl hin rfl (by decide +kernel) rfl rfl (by rw [hn19]; decide) d_Md_init_160 (fun H locs hP hD hS => ?_)
  obtain ⟨f20, hf20⟩ : ∃ z : List Value, z = f19.set 23 (.ref q19) := ⟨_, rfl⟩
  have hn20 : f20.length = 46 := by rw [hf20, List.length_set]; exact hn19
  have hP : va_P (dC, dI) vwCl ((h, .inr (9, f20)) :: a20) H := by rw [hf20]; exact hP
  have hD : va_D A ((h, .inr (9, f20)) :: a20) := by rw [hf20]; exact hD
  refine lv_aload_n hx hb d_Md_init_163 rfl (lv_at hl 0 rfl) ?_
  refine lv_bipush (v := 9) hx hb d_Md_init_164 (by decide) ?_
  refine xa_new (atype := .int) (ty := .int) (n := 9) (N' := 9) (a0 := (9, .inl (fun _ => 0))) hx hb (hts _ kA_int) rfl hK 0 rfl (fun _ _ => rfl) hP hD hS hA (xv_int _) (by decide +kernel) (by decide +kernel) (by decide +kernel) (by decide +kernel) (by decide +kernel) d_Md_init_166 (fun q20 H hP hD hS => ?_)
  obtain ⟨a21, ha21⟩ : ∃ z : va_W, z = a20 ++ [(q20, .inl (tC 0, 9, .inl (fun _ => 0)))] := ⟨_, rfl⟩
  have hP : va_P (dC, dI) vwCl ((h, .inr (9, f20)) :: a21) H := by rw [ha21]; exact hP
  have hD : va_D A ((h, .inr (9, f20)) :: a21) := by rw [ha21]; exact hD
  refine va_putF (D := (dC, dI)) (ci := 9) (v := .ref q20) (ty := .array .int) (C := RX9) (T := TX9) (N := 46) hx hb hts in_X9 tyX9 tyX9_ok nmX9 hown hK hP hD hS 0 (fs := f20) rfl rfl 24 (by decide) (hts _ kF_9_72) (fun _ h9 => h9) rfl hin rfl (by decide +kernel) rfl rfl (by rw [hn20]; decide) d_Md_init_168 (fun H locs hP hD hS => ?_)
  obtain ⟨f21, hf21⟩ : ∃ z : List Value, z = f20.set 24 (.ref q20) := ⟨_, rfl⟩
  have hn21 : f21.length = 46 := by rw [hf21, List.length_set]; exact hn20
  have hP : va_P (dC, dI) vwCl ((h, .inr (9, f21)) :: a21) H := by rw [hf21]; exact hP
  have hD : va_D A ((h, .inr (9, f21)) :: a21) := by rw [hf21]; exact hD
  refine lv_aload_n hx hb d_Md_init_171 rfl (lv_at hl 0 rfl) ?_
  refine lv_bipush (v := 9) hx hb d_Md_init_172 (by decide) ?_
  refine xa_new (atype := .int) (ty := .int) (n := 9) (N' := 9) (a0 := (9, .inl (fun _ => 0))) hx hb (hts _ kA_int) rfl hK 0 rfl (fun _ _ => rfl) hP hD hS hA (xv_int _) (by decide +kernel) (by decide +kernel) (by decide +kernel) (by decide +kernel) (by decide +kernel) d_Md_init_174 (fun q21 H hP hD hS => ?_)
  obtain ⟨a22, ha22⟩ : ∃ z : va_W, z = a21 ++ [(q21, .inl (tC 0, 9, .inl (fun _ => 0)))] := ⟨_, rfl⟩
  have hP : va_P (dC, dI) vwCl ((h, .inr (9, f21)) :: a22) H := by rw [ha22]; exact hP
  have hD : va_D A ((h, .inr (9, f21)) :: a22) := by rw [ha22]; exact hD
  refine va_putF (D := (dC, dI)) (ci := 9) (v := .ref q21) (ty := .array .int) (C := RX9) (T := TX9) (N := 46) hx hb hts in_X9 tyX9 tyX9_ok nmX9 hown hK hP hD hS 0 (fs := f21) rfl rfl 25 (by decide) (hts _ kF_9_75) (fun _ h9 => h9) rfl hin rfl (by decide +kernel) rfl rfl (by rw [hn21]; decide) d_Md_init_176 (fun H locs hP hD hS => ?_)
  obtain ⟨f22, hf22⟩ : ∃ z : List Value, z = f21.set 25 (.ref q21) := ⟨_, rfl⟩
  have hn22 : f22.length = 46 := by rw [hf22, List.length_set]; exact hn21
  have hP : va_P (dC, dI) vwCl ((h, .inr (9, f22)) :: a22) H := by rw [hf22]; exact hP
  have hD : va_D A ((h, .inr (9, f22)) :: a22) := by rw [hf22]; exact hD
  refine lv_aload_n hx hb d_Md_init_179 rfl (lv_at hl 0 rfl) ?_
  refine lv_bipush (v := 9) hx hb d_Md_init_180 (by decide) ?_
  refine xa_new (atype := .int) (ty := .int) (n := 9) (N' := 9) (a0 := (9, .inl (fun _ => 0))) hx hb (hts _ kA_int) rfl hK 0 rfl (fun _ _ => rfl) hP hD hS hA (xv_int _) (by decide +kernel) (by decide +kernel) (by decide +kernel) (by decide +kernel) (by decide +kernel) d_Md_init_182 (fun q22 H hP hD hS => ?_)
  obtain ⟨a23, ha23⟩ : ∃ z : va_W, z = a22 ++ [(q22, .inl (tC 0, 9, .inl (fun _ => 0)))] := ⟨_, rfl⟩
  have hP : va_P (dC, dI) vwCl ((h, .inr (9, f22)) :: a23) H := by rw [ha23]; exact hP
  have hD : va_D A ((h, .inr (9, f22)) :: a23) := by rw [ha23]; exact hD
  refine va_putF (D := (dC, dI)) (ci := 9) (v := .ref q22) (ty := .array .int) (C := RX9) (T := TX9) (N := 46) hx hb hts in_X9 tyX9 tyX9_ok nmX9 hown hK hP hD hS 0 (fs := f22) rfl rfl 26 (by decide) (hts _ kF_9_78) (fun _ h9 => h9) rfl hin rfl (by decide +kernel) rfl rfl (by rw [hn22]; decide) d_Md_init_184 (fun H locs hP hD hS => ?_)
  obtain ⟨f23, hf23⟩ : ∃ z : List Value, z = f22.set 26 (.ref q22) := ⟨_, rfl⟩
  have hn23 : f23.length = 46 := by rw [hf23, List.length_set]; exact hn22
  have hP : va_P (dC, dI) vwCl ((h, .inr (9, f23)) :: a23) H := by rw [hf23]; exact hP
  have hD : va_D A ((h, .inr (9, f23)) :: a23) := by rw [hf23]; exact hD
  refine lv_aload_n hx hb d_Md_init_187 rfl (lv_at hl 0 rfl) ?_
  refine lv_bipush (v := 60) hx hb d_Md_init_188 (by decide) ?_
  refine xa_new (atype := .int) (ty := .int) (n := 60) (N' := 60) (a0 := (60, .inl (fun _ => 0))) hx hb (hts _ kA_int) rfl hK 0 rfl (fun _ _ => rfl) hP hD hS hA (xv_int _) (by decide +kernel) (by decide +kernel) (by decide +kernel) (by decide +kernel) (by decide +kernel) d_Md_init_190 (fun q23 H hP hD hS => ?_)
  obtain ⟨a24, ha24⟩ : ∃ z : va_W, z = a23 ++ [(q23, .inl (tC 0, 60, .inl (fun _ => 0)))] := ⟨_, rfl⟩
  have hP : va_P (dC, dI) vwCl ((h, .inr (9, f23)) :: a24) H := by rw [ha24]; exact hP
  have hD : va_D A ((h, .inr (9, f23)) :: a24) := by rw [ha24]; exact hD
  refine va_putF (D := (dC, dI)) (ci := 9) (v := .ref q23) (ty := .array .int) (C := RX9) (T := TX9) (N := 46) hx hb hts in_X9 tyX9 tyX9_ok nmX9 hown hK hP hD hS 0 (fs := f23) rfl rfl 29 (by decide) (hts _ kF_9_81) (fun _ h9 => h9) rfl hin rfl (by decide +kernel) rfl rfl (by rw [hn23]; decide) d_Md_init_192 (fun H locs hP hD hS => ?_)
  obtain ⟨f24, hf24⟩ : ∃ z : List Value, z = f23.set 29 (.ref q23) := ⟨_, rfl⟩
  have hn24 : f24.length = 46 := by rw [hf24, List.length_set]; exact hn23
  have hP : va_P (dC, dI) vwCl ((h, .inr (9, f24)) :: a24) H := by rw [hf24]; exact hP
  have hD : va_D A ((h, .inr (9, f24)) :: a24) := by rw [hf24]; exact hD
  refine lv_aload_n hx hb d_Md_init_195 rfl (lv_at hl 0 rfl) ?_
  refine lv_bipush (v := 60) hx hb d_Md_init_196 (by decide) ?_
  refine xa_new (atype := .long) (ty := .long) (n := 60) (N' := 60) (a0 := (60, .inr (.inl (fun _ => 0)))) hx hb (hts _ kA_long) rfl hK 1 rfl (fun _ _ => rfl) hP hD hS hA (xv_long _) (by decide +kernel) (by decide +kernel) (by decide +kernel) (by decide +kernel) (by decide +kernel) d_Md_init_198 (fun q24 H hP hD hS => ?_)
  obtain ⟨a25, ha25⟩ : ∃ z : va_W, z = a24 ++ [(q24, .inl (tC 1, 60, .inr (.inl (fun _ => 0))))] := ⟨_, rfl⟩
  have hP : va_P (dC, dI) vwCl ((h, .inr (9, f24)) :: a25) H := by rw [ha25]; exact hP
  have hD : va_D A ((h, .inr (9, f24)) :: a25) := by rw [ha25]; exact hD
  refine va_putF (D := (dC, dI)) (ci := 9) (v := .ref q24) (ty := .array .long) (C := RX9) (T := TX9) (N := 46) hx hb hts in_X9 tyX9 tyX9_ok nmX9 hown hK hP hD hS 0 (fs := f24) rfl rfl 30 (by decide) (hts _ kF_9_84) (fun _ h9 => h9) rfl hin rfl (by decide +kernel) rfl rfl (by rw [hn24]; decide) d_Md_init_200 (fun H locs hP hD hS => ?_)
  obtain ⟨f25, hf25⟩ : ∃ z : List Value, z = f24.set 30 (.ref q24) := ⟨_, rfl⟩
  have hn25 : f25.length = 46 := by rw [hf25, List.length_set]; exact hn24
  have hP : va_P (dC, dI) vwCl ((h, .inr (9, f25)) :: a25) H := by rw [hf25]; exact hP
  have hD : va_D A ((h, .inr (9, f25)) :: a25) := by rw [hf25]; exact hD
  refine lv_aload_n hx hb d_Md_init_203 rfl (lv_at hl 0 rfl) ?_
  refine lv_bipush (v := 60) hx hb d_Md_init_204 (by decide) ?_
  refine xa_new (atype := .int) (ty := .int) (n := 60) (N' := 60) (a0 := (60, .inl (fun _ => 0))) hx hb (hts _ kA_int) rfl hK 0 rfl (fun _ _ => rfl) hP hD hS hA (xv_int _) (by decide +kernel) (by decide +kernel) (by decide +kernel) (by decide +kernel) (by decide +kernel) d_Md_init_206 (fun q25 H hP hD hS => ?_)
  obtain ⟨a26, ha26⟩ : ∃ z : va_W, z = a25 ++ [(q25, .inl (tC 0, 60, .inl (fun _ => 0)))] := ⟨_, rfl⟩
  have hP : va_P (dC, dI) vwCl ((h, .inr (9, f25)) :: a26) H := by rw [ha26]; exact hP
  have hD : va_D A ((h, .inr (9, f25)) :: a26) := by rw [ha26]; exact hD
  refine va_putF (D := (dC, dI)) (ci := 9) (v := .ref q25) (ty := .array .int) (C := RX9) (T := TX9) (N := 46) hx hb hts in_X9 tyX9 tyX9_ok nmX9 hown hK hP hD hS 0 (fs := f25) rfl rfl 31 (by decide) (hts _ kF_9_87) (fun _ h9 => h9) rfl hin rfl (by decide +kernel) rfl rfl (by rw [hn25]; decide) d_Md_init_208 (fun H locs hP hD hS => ?_)
  obtain ⟨f26, hf26⟩ : ∃ z : List Value, z = f25.set 31 (.ref q25) := ⟨_, rfl⟩
  have hn26 : f26.length = 46 := by rw [hf26, List.length_set]; exact hn25
  have hP : va_P (dC, dI) vwCl ((h, .inr (9, f26)) :: a26) H := by rw [hf26]; exact hP
  have hD : va_D A ((h, .inr (9, f26)) :: a26) := by rw [hf26]; exact hD
  refine lv_aload_n hx hb d_Md_init_211 rfl (lv_at hl 0 rfl) ?_
  refine lv_sipush (v := 3600) hx hb d_Md_init_212 (by decide) ?_
  refine xa_new (atype := .int) (ty := .int) (n := 3600) (N' := 3600) (a0 := (3600, .inl (fun _ => 0))) hx hb (hts _ kA_int) rfl hK 0 rfl (fun _ _ => rfl) hP hD hS hA (xv_int _) (by decide +kernel) (by decide +kernel) (by decide +kernel) (by decide +kernel) (by decide +kernel) d_Md_init_215 (fun q26 H hP hD hS => ?_)
  obtain ⟨a27, ha27⟩ : ∃ z : va_W, z = a26 ++ [(q26, .inl (tC 0, 3600, .inl (fun _ => 0)))] := ⟨_, rfl⟩
  have hP : va_P (dC, dI) vwCl ((h, .inr (9, f26)) :: a27) H := by rw [ha27]; exact hP
  have hD : va_D A ((h, .inr (9, f26)) :: a27) := by rw [ha27]; exact hD
  refine va_putF (D := (dC, dI)) (ci := 9) (v := .ref q26) (ty := .array .int) (C := RX9) (T := TX9) (N := 46) hx hb hts in_X9 tyX9 tyX9_ok nmX9 hown hK hP hD hS 0 (fs := f26) rfl rfl 32 (by decide) (hts _ kF_9_90) (fun _ h9 => h9) rfl hin rfl (by decide +kernel) rfl rfl (by rw [hn26]; decide) d_Md_init_217 (fun H locs hP hD hS => ?_)
  obtain ⟨f27, hf27⟩ : ∃ z : List Value, z = f26.set 32 (.ref q26) := ⟨_, rfl⟩
  have hn27 : f27.length = 46 := by rw [hf27, List.length_set]; exact hn26
  have hP : va_P (dC, dI) vwCl ((h, .inr (9, f27)) :: a27) H := by rw [hf27]; exact hP
  have hD : va_D A ((h, .inr (9, f27)) :: a27) := by rw [hf27]; exact hD
  refine lv_aload_n hx hb d_Md_init_220 rfl (lv_at hl 0 rfl) ?_
  refine lv_bipush (v := 60) hx hb d_Md_init_221 (by decide) ?_
  refine xa_new (atype := .long) (ty := .long) (n := 60) (N' := 60) (a0 := (60, .inr (.inl (fun _ => 0)))) hx hb (hts _ kA_long) rfl hK 1 rfl (fun _ _ => rfl) hP hD hS hA (xv_long _) (by decide +kernel) (by decide +kernel) (by decide +kernel) (by decide +kernel) (by decide +kernel) d_Md_init_223 (fun q27 H hP hD hS => ?_)
  obtain ⟨a28, ha28⟩ : ∃ z : va_W, z = a27 ++ [(q27, .inl (tC 1, 60, .inr (.inl (fun _ => 0))))] := ⟨_, rfl⟩
  have hP : va_P (dC, dI) vwCl ((h, .inr (9, f27)) :: a28) H := by rw [ha28]; exact hP
  have hD : va_D A ((h, .inr (9, f27)) :: a28) := by rw [ha28]; exact hD
  refine va_putF (D := (dC, dI)) (ci := 9) (v := .ref q27) (ty := .array .long) (C := RX9) (T := TX9) (N := 46) hx hb hts in_X9 tyX9 tyX9_ok nmX9 hown hK hP hD hS 0 (fs := f27) rfl rfl 33 (by decide) (hts _ kF_9_93) (fun _ h9 => h9) rfl hin rfl (by decide +kernel) rfl rfl (by rw [hn27]; decide) d_Md_init_225 (fun H locs hP hD hS => ?_)
  obtain ⟨f28, hf28⟩ : ∃ z : List Value, z = f27.set 33 (.ref q27) := ⟨_, rfl⟩
  have hn28 : f28.length = 46 := by rw [hf28, List.length_set]; exact hn27
  have hP : va_P (dC, dI) vwCl ((h, .inr (9, f28)) :: a28) H := by rw [hf28]; exact hP
  have hD : va_D A ((h, .inr (9, f28)) :: a28) := by rw [hf28]; exact hD
  refine lv_aload_n hx hb d_Md_init_228 rfl (lv_at hl 0 rfl) ?_
  refine lv_bipush (v := 12) hx hb d_Md_init_229 (by decide) ?_
  refine xa_new (atype := .long) (ty := .long) (n := 12) (N' := 12) (a0 := (12, .inr (.inl (fun _ => 0)))) hx hb (hts _ kA_long) rfl hK 1 rfl (fun _ _ => rfl) hP hD hS hA (xv_long _) (by decide +kernel) (by decide +kernel) (by decide +kernel) (by decide +kernel) (by decide +kernel) d_Md_init_231 (fun q28 H hP hD hS => ?_)
  obtain ⟨a29, ha29⟩ : ∃ z : va_W, z = a28 ++ [(q28, .inl (tC 1, 12, .inr (.inl (fun _ => 0))))] := ⟨_, rfl⟩
  have hP : va_P (dC, dI) vwCl ((h, .inr (9, f28)) :: a29) H := by rw [ha29]; exact hP
  have hD : va_D A ((h, .inr (9, f28)) :: a29) := by rw [ha29]; exact hD
  refine va_putF (D := (dC, dI)) (ci := 9) (v := .ref q28) (ty := .array .long) (C := RX9) (T := TX9) (N := 46) hx hb hts in_X9 tyX9 tyX9_ok nmX9 hown hK hP hD hS 0 (fs := f28) rfl rfl 37 (by decide) (hts _ kF_9_96) (fun _ h9 => h9) rfl hin rfl (by decide +kernel) rfl rfl (by rw [hn28]; decide) d_Md_init_233 (fun H locs hP hD hS => ?_)
  obtain ⟨f29, hf29⟩ : ∃ z : List Value, z = f28.set 37 (.ref q28) := ⟨_, rfl⟩
  have hn29 : f29.length = 46 := by rw [hf29, List.length_set]; exact hn28
  have hP : va_P (dC, dI) vwCl ((h, .inr (9, f29)) :: a29) H := by rw [hf29]; exact hP
  have hD : va_D A ((h, .inr (9, f29)) :: a29) := by rw [hf29]; exact hD
  refine lv_aload_n hx hb d_Md_init_236 rfl (lv_at hl 0 rfl) ?_
  refine lv_bipush (v := 12) hx hb d_Md_init_237 (by decide) ?_
  refine xa_new (atype := .long) (ty := .long) (n := 12) (N' := 12) (a0 := (12, .inr (.inl (fun _ => 0)))) hx hb (hts _ kA_long) rfl hK 1 rfl (fun _ _ => rfl) hP hD hS hA (xv_long _) (by decide +kernel) (by decide +kernel) (by decide +kernel) (by decide +kernel) (by decide +kernel) d_Md_init_239 (fun q29 H hP hD hS => ?_)
  obtain ⟨a30, ha30⟩ : ∃ z : va_W, z = a29 ++ [(q29, .inl (tC 1, 12, .inr (.inl (fun _ => 0))))] := ⟨_, rfl⟩
  have hP : va_P (dC, dI) vwCl ((h, .inr (9, f29)) :: a30) H := by rw [ha30]; exact hP
  have hD : va_D A ((h, .inr (9, f29)) :: a30) := by rw [ha30]; exact hD
  refine va_putF (D := (dC, dI)) (ci := 9) (v := .ref q29) (ty := .array .long) (C := RX9) (T := TX9) (N := 46) hx hb hts in_X9 tyX9 tyX9_ok nmX9 hown hK hP hD hS 0 (fs := f29) rfl rfl 38 (by decide) (hts _ kF_9_99) (fun _ h9 => h9) rfl hin rfl (by decide +kernel) rfl rfl (by rw [hn29]; decide) d_Md_init_241 (fun H locs hP hD hS => ?_)
  obtain ⟨f30, hf30⟩ : ∃ z : List Value, z = f29.set 38 (.ref q29) := ⟨_, rfl⟩
  have hn30 : f30.length = 46 := by rw [hf30, List.length_set]; exact hn29
  have hP : va_P (dC, dI) vwCl ((h, .inr (9, f30)) :: a30) H := by rw [hf30]; exact hP
  have hD : va_D A ((h, .inr (9, f30)) :: a30) := by rw [hf30]; exact hD
  refine lv_aload_n hx hb d_Md_init_244 rfl (lv_at hl 0 rfl) ?_
  refine lv_bipush (v := 12) hx hb d_Md_init_245 (by decide) ?_
  refine xa_new (atype := .boolean) (ty := .boolean) (n := 12) (N' := 12) (a0 := (12, .inl (fun _ => 0))) hx hb (hts _ kA_boolean) rfl hK 3 rfl (fun _ _ => rfl) hP hD hS hA (xv_boolean _) (by decide +kernel) (by decide +kernel) (by decide +kernel) (by decide +kernel) (by decide +kernel) d_Md_init_247 (fun q30 H hP hD hS => ?_)
  obtain ⟨a31, ha31⟩ : ∃ z : va_W, z = a30 ++ [(q30, .inl (tC 3, 12, .inl (fun _ => 0)))] := ⟨_, rfl⟩
  have hP : va_P (dC, dI) vwCl ((h, .inr (9, f30)) :: a31) H := by rw [ha31]; exact hP
  have hD : va_D A ((h, .inr (9, f30)) :: a31) := by rw [ha31]; exact hD
  refine va_putF (D := (dC, dI)) (ci := 9) (v := .ref q30) (ty := .array .boolean) (C := RX9) (T := TX9) (N := 46) hx hb hts in_X9 tyX9 tyX9_ok nmX9 hown hK hP hD hS 0 (fs := f30) rfl rfl 39 (by decide) (hts _ kF_9_102) (fun _ h9 => h9) rfl hin rfl (by decide +kernel) rfl rfl (by rw [hn30]; decide) d_Md_init_249 (fun H locs hP hD hS => ?_)
  obtain ⟨f31, hf31⟩ : ∃ z : List Value, z = f30.set 39 (.ref q30) := ⟨_, rfl⟩
  have hn31 : f31.length = 46 := by rw [hf31, List.length_set]; exact hn30
  have hP : va_P (dC, dI) vwCl ((h, .inr (9, f31)) :: a31) H := by rw [hf31]; exact hP
  have hD : va_D A ((h, .inr (9, f31)) :: a31) := by rw [hf31]; exact hD
  refine lv_aload_n hx hb d_Md_init_252 rfl (lv_at hl 0 rfl) ?_
  refine lv_bipush (v := 12) hx hb d_Md_init_253 (by decide) ?_
  refine xa_new (atype := .long) (ty := .long) (n := 12) (N' := 12) (a0 := (12, .inr (.inl (fun _ => 0)))) hx hb (hts _ kA_long) rfl hK 1 rfl (fun _ _ => rfl) hP hD hS hA (xv_long _) (by decide +kernel) (by decide +kernel) (by decide +kernel) (by decide +kernel) (by decide +kernel) d_Md_init_255 (fun q31 H hP hD hS => ?_)
  obtain ⟨a32, ha32⟩ : ∃ z : va_W, z = a31 ++ [(q31, .inl (tC 1, 12, .inr (.inl (fun _ => 0))))] := ⟨_, rfl⟩
  have hP : va_P (dC, dI) vwCl ((h, .inr (9, f31)) :: a32) H := by rw [ha32]; exact hP
  have hD : va_D A ((h, .inr (9, f31)) :: a32) := by rw [ha32]; exact hD
  refine va_putF (D := (dC, dI)) (ci := 9) (v := .ref q31) (ty := .array .long) (C := RX9) (T := TX9) (N := 46) hx hb hts in_X9 tyX9 tyX9_ok nmX9 hown hK hP hD hS 0 (fs := f31) rfl rfl 40 (by decide) (hts _ kF_9_105) (fun _ h9 => h9) rfl hin rfl (by decide +kernel) rfl rfl (by rw [hn31]; decide) d_Md_init_257 (fun H locs hP hD hS => ?_)
  obtain ⟨f32, hf32⟩ : ∃ z : List Value, z = f31.set 40 (.ref q31) := ⟨_, rfl⟩
  have hn32 : f32.length = 46 := by rw [hf32, List.length_set]; exact hn31
  have hP : va_P (dC, dI) vwCl ((h, .inr (9, f32)) :: a32) H := by rw [hf32]; exact hP
  have hD : va_D A ((h, .inr (9, f32)) :: a32) := by rw [hf32]; exact hD
  refine lv_aload_n hx hb d_Md_init_260 rfl (lv_at hl 0 rfl) ?_
  refine lv_bipush (v := 12) hx hb d_Md_init_261 (by decide) ?_
  refine xa_new (atype := .long) (ty := .long) (n := 12) (N' := 12) (a0 := (12, .inr (.inl (fun _ => 0)))) hx hb (hts _ kA_long) rfl hK 1 rfl (fun _ _ => rfl) hP hD hS hA (xv_long _) (by decide +kernel) (by decide +kernel) (by decide +kernel) (by decide +kernel) (by decide +kernel) d_Md_init_263 (fun q32 H hP hD hS => ?_)
  obtain ⟨a33, ha33⟩ : ∃ z : va_W, z = a32 ++ [(q32, .inl (tC 1, 12, .inr (.inl (fun _ => 0))))] := ⟨_, rfl⟩
  have hP : va_P (dC, dI) vwCl ((h, .inr (9, f32)) :: a33) H := by rw [ha33]; exact hP
  have hD : va_D A ((h, .inr (9, f32)) :: a33) := by rw [ha33]; exact hD
  refine va_putF (D := (dC, dI)) (ci := 9) (v := .ref q32) (ty := .array .long) (C := RX9) (T := TX9) (N := 46) hx hb hts in_X9 tyX9 tyX9_ok nmX9 hown hK hP hD hS 0 (fs := f32) rfl rfl 41 (by decide) (hts _ kF_9_108) (fun _ h9 => h9) rfl hin rfl (by decide +kernel) rfl rfl (by rw [hn32]; decide) d_Md_init_265 (fun H locs hP hD hS => ?_)
  obtain ⟨f33, hf33⟩ : ∃ z : List Value, z = f32.set 41 (.ref q32) := ⟨_, rfl⟩
  have hn33 : f33.length = 46 := by rw [hf33, List.length_set]; exact hn32
  have hP : va_P (dC, dI) vwCl ((h, .inr (9, f33)) :: a33) H := by rw [hf33]; exact hP
  have hD : va_D A ((h, .inr (9, f33)) :: a33) := by rw [hf33]; exact hD
  refine lv_aload_n hx hb d_Md_init_268 rfl (lv_at hl 0 rfl) ?_
  refine lv_bipush (v := 12) hx hb d_Md_init_269 (by decide) ?_
  refine xa_new (atype := .long) (ty := .long) (n := 12) (N' := 12) (a0 := (12, .inr (.inl (fun _ => 0)))) hx hb (hts _ kA_long) rfl hK 1 rfl (fun _ _ => rfl) hP hD hS hA (xv_long _) (by decide +kernel) (by decide +kernel) (by decide +kernel) (by decide +kernel) (by decide +kernel) d_Md_init_271 (fun q33 H hP hD hS => ?_)
  obtain ⟨a34, ha34⟩ : ∃ z : va_W, z = a33 ++ [(q33, .inl (tC 1, 12, .inr (.inl (fun _ => 0))))] := ⟨_, rfl⟩
  have hP : va_P (dC, dI) vwCl ((h, .inr (9, f33)) :: a34) H := by rw [ha34]; exact hP
  have hD : va_D A ((h, .inr (9, f33)) :: a34) := by rw [ha34]; exact hD
  refine va_putF (D := (dC, dI)) (ci := 9) (v := .ref q33) (ty := .array .long) (C := RX9) (T := TX9) (N := 46) hx hb hts in_X9 tyX9 tyX9_ok nmX9 hown hK hP hD hS 0 (fs := f33) rfl rfl 42 (by decide) (hts _ kF_9_111) (fun _ h9 => h9) rfl hin rfl (by decide +kernel) rfl rfl (by rw [hn33]; decide) d_Md_init_273 (fun H locs hP hD hS => ?_)
  obtain ⟨f34, hf34⟩ : ∃ z : List Value, z = f33.set 42 (.ref q33) := ⟨_, rfl⟩
  have hn34 : f34.length = 46 := by rw [hf34, List.length_set]; exact hn33
  have hP : va_P (dC, dI) vwCl ((h, .inr (9, f34)) :: a34) H := by rw [hf34]; exact hP
  have hD : va_D A ((h, .inr (9, f34)) :: a34) := by rw [hf34]; exact hD
  refine lv_aload_n hx hb d_Md_init_276 rfl (lv_at hl 0 rfl) ?_
  refine lv_bipush (v := 12) hx hb d_Md_init_277 (by decide) ?_
  refine xa_new (atype := .long) (ty := .long) (n := 12) (N' := 12) (a0 := (12, .inr (.inl (fun _ => 0)))) hx hb (hts _ kA_long) rfl hK 1 rfl (fun _ _ => rfl) hP hD hS hA (xv_long _) (by decide +kernel) (by decide +kernel) (by decide +kernel) (by decide +kernel) (by decide +kernel) d_Md_init_279 (fun q34 H hP hD hS => ?_)
  obtain ⟨a35, ha35⟩ : ∃ z : va_W, z = a34 ++ [(q34, .inl (tC 1, 12, .inr (.inl (fun _ => 0))))] := ⟨_, rfl⟩
  have hP : va_P (dC, dI) vwCl ((h, .inr (9, f34)) :: a35) H := by rw [ha35]; exact hP
  have hD : va_D A ((h, .inr (9, f34)) :: a35) := by rw [ha35]; exact hD
  refine va_putF (D := (dC, dI)) (ci := 9) (v := .ref q34) (ty := .array .long) (C := RX9) (T := TX9) (N := 46) hx hb hts in_X9 tyX9 tyX9_ok nmX9 hown hK hP hD hS 0 (fs := f34) rfl rfl 43 (by decide) (hts _ kF_9_114) (fun _ h9 => h9) rfl hin rfl (by decide +kernel) rfl rfl (by rw [hn34]; decide) d_Md_init_281 (fun H locs hP hD hS => ?_)
  obtain ⟨f35, hf35⟩ : ∃ z : List Value, z = f34.set 43 (.ref q34) := ⟨_, rfl⟩
  have hn35 : f35.length = 46 := by rw [hf35, List.length_set]; exact hn34
  have hP : va_P (dC, dI) vwCl ((h, .inr (9, f35)) :: a35) H := by rw [hf35]; exact hP
  have hD : va_D A ((h, .inr (9, f35)) :: a35) := by rw [hf35]; exact hD
  refine lv_aload_n hx hb d_Md_init_284 rfl (lv_at hl 0 rfl) ?_
  refine lv_bipush (v := 40) hx hb d_Md_init_285 (by decide) ?_
  refine xa_new (atype := .int) (ty := .int) (n := 40) (N' := 40) (a0 := (40, .inl (fun _ => 0))) hx hb (hts _ kA_int) rfl hK 0 rfl (fun _ _ => rfl) hP hD hS hA (xv_int _) (by decide +kernel) (by decide +kernel) (by decide +kernel) (by decide +kernel) (by decide +kernel) d_Md_init_287 (fun q35 H hP hD hS => ?_)
  obtain ⟨a36, ha36⟩ : ∃ z : va_W, z = a35 ++ [(q35, .inl (tC 0, 40, .inl (fun _ => 0)))] := ⟨_, rfl⟩
  have hP : va_P (dC, dI) vwCl ((h, .inr (9, f35)) :: a36) H := by rw [ha36]; exact hP
  have hD : va_D A ((h, .inr (9, f35)) :: a36) := by rw [ha36]; exact hD
  refine va_putF (D := (dC, dI)) (ci := 9) (v := .ref q35) (ty := .array .int) (C := RX9) (T := TX9) (N := 46) hx hb hts in_X9 tyX9 tyX9_ok nmX9 hown hK hP hD hS 0 (fs := f35) rfl rfl 44 (by decide) (hts _ kF_9_117) (fun _ h9 => h9) rfl hin rfl (by decide +kernel) rfl rfl (by rw [hn35]; decide) d_Md_init_289 (fun H locs hP hD hS => ?_)
  obtain ⟨f36, hf36⟩ : ∃ z : List Value, z = f35.set 44 (.ref q35) := ⟨_, rfl⟩
  have hn36 : f36.length = 46 := by rw [hf36, List.length_set]; exact hn35
  have hP : va_P (dC, dI) vwCl ((h, .inr (9, f36)) :: a36) H := by rw [hf36]; exact hP
  have hD : va_D A ((h, .inr (9, f36)) :: a36) := by rw [hf36]; exact hD
  refine W.widen (k := 36) (n := 4726) (by decide +kernel) (by decide +kernel) ?_
  subst hQ
  subst hAe
  have ew : ((h, .inr (9, f36)) :: a36) = w_Md_ h (fun j => [q0, q1, q2, q3, q4, q5, q6, q7, q8, q9, q10, q11, q12, q13, q14, q15, q16, q17, q18, q19, q20, q21, q22, q23, q24, q25, q26, q27, q28, q29, q30, q31, q32, q33, q34, q35].getD j 0) tC S0 := by
    have ef : f36 = [.ref q0, .int 0, .int 0, .ref q1, .ref q2, .ref q3, .int 0, .ref q4, .ref q5, .ref q6, .ref q7, .ref q8, .ref q9, .ref q10, .ref q11, .ref q12, .ref q13, .ref q14, .ref q15, .int 0, .ref q16, .ref q17, .ref q18, .ref q19, .ref q20, .ref q21, .ref q22, .int 0, .int 0, .ref q23, .ref q24, .ref q25, .ref q26, .ref q27, .int 0, .int 0, .int 0, .ref q28, .ref q29, .ref q30, .ref q31, .ref q32, .ref q33, .ref q34, .ref q35, .int 0] := by
      rw [hf36, hf35, hf34, hf33, hf32, hf31, hf30, hf29, hf28, hf27, hf26, hf25, hf24, hf23, hf22, hf21, hf20, hf19, hf18, hf17, hf16, hf15, hf14, hf13, hf12, hf11, hf10, hf9, hf8, hf7, hf6, hf5, hf4, hf3, hf2, hf1, hf0]
      simp only [List.set_cons_zero, List.set_cons_succ]
    have ea : a36 = [(q0, .inl (tC 0, 40, .inl (fun _ => 0))), (q1, .inl (tC 0, 10, .inl (fun _ => 0))), (q2, .inl (tC 0, 60, .inl (fun _ => 0))), (q3, .inl (tC 1, 41, .inr (.inl (fun _ => 0)))), (q4, .inl (tC 0, 12, .inl (fun _ => 0))), (q5, .inl (tC 0, 12, .inl (fun _ => 0))), (q6, .inl (tC 0, 12, .inl (fun _ => 0))), (q7, .inl (tC 1, 72, .inr (.inl (fun _ => 0)))), (q8, .inl (tC 3, 12, .inl (fun _ => 0))), (q9, .inl (tC 1, 12, .inr (.inl (fun _ => 0)))), (q10, .inl (tC 1, 12, .inr (.inl (fun _ => 0)))), (q11, .inl (tC 1, 12, .inr (.inl (fun _ => 0)))), (q12, .inl (tC 0, 41, .inl (fun _ => 0))), (q13, .inl (tC 1, 123, .inr (.inl (fun _ => 0)))), (q14, .inl (tC 0, 123, .inl (fun _ => 0))), (q15, .inl (tC 0, 3, .inl (fun _ => 0))), (q16, .inl (tC 0, 60, .inl (fun _ => 0))), (q17, .inl (tC 1, 60, .inr (.inl (fun _ => 0)))), (q18, .inl (tC 0, 9, .inl (fun _ => 0))), (q19, .inl (tC 0, 9, .inl (fun _ => 0))), (q20, .inl (tC 0, 9, .inl (fun _ => 0))), (q21, .inl (tC 0, 9, .inl (fun _ => 0))), (q22, .inl (tC 0, 9, .inl (fun _ => 0))), (q23, .inl (tC 0, 60, .inl (fun _ => 0))), (q24, .inl (tC 1, 60, .inr (.inl (fun _ => 0)))), (q25, .inl (tC 0, 60, .inl (fun _ => 0))), (q26, .inl (tC 0, 3600, .inl (fun _ => 0))), (q27, .inl (tC 1, 60, .inr (.inl (fun _ => 0)))), (q28, .inl (tC 1, 12, .inr (.inl (fun _ => 0)))), (q29, .inl (tC 1, 12, .inr (.inl (fun _ => 0)))), (q30, .inl (tC 3, 12, .inl (fun _ => 0))), (q31, .inl (tC 1, 12, .inr (.inl (fun _ => 0)))), (q32, .inl (tC 1, 12, .inr (.inl (fun _ => 0)))), (q33, .inl (tC 1, 12, .inr (.inl (fun _ => 0)))), (q34, .inl (tC 1, 12, .inr (.inl (fun _ => 0)))), (q35, .inl (tC 0, 40, .inl (fun _ => 0)))] := by
      rw [ha36, ha35, ha34, ha33, ha32, ha31, ha30, ha29, ha28, ha27, ha26, ha25, ha24, ha23, ha22, ha21, ha20, ha19, ha18, ha17, ha16, ha15, ha14, ha13, ha12, ha11, ha10, ha9, ha8, ha7, ha6, ha5, ha4, ha3, ha2, ha1, ha0]
      simp only [List.nil_append, List.cons_append]
    rw [ef, ea]
    rfl
  exact W.vret hx hb hr (fun t ht hW => ⟨⟨none, ((h, .inr (9, f36)) :: a36), rfl, ⟨rfl, _, ew⟩, by rw [ht]; exact hP, hD⟩, hS.F ht⟩) hS.2.2 d_Md_init_292
