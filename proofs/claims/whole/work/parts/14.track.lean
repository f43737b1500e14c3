def f_Tr_gap (p1 : Int32) (p2 : Int32) (p3 : Int32) (p4 : Int32) : Option (Int32) := (some ((if (p3 + p4) < p3 then (p3 + p4) else p3) - (if p1 < (p1 + p2) then (p1 + p2) else p1)) : Option Int32).bind fun v1 => (some ((if (p1 + p2) < p1 then (p1 + p2) else p1) - (if p3 < (p3 + p4) then (p3 + p4) else p3)) : Option Int32).bind fun v2 => some (if 0 < (if v1 < v2 then v2 else v1) then (if v1 < v2 then v2 else v1) else 0)
def rm_Tr_gap : Room := { frames := 1, cells := 0, slots := 0, locals := 30 }
set_option maxHeartbeats 4000000 in
set_option maxRecDepth 100000 in
theorem m_Tr_gap (l : Launch) (dC : Nat → ClassId) (dI : Nat → Nat → Nat) (tC : Nat → ClassId) (p1 : Int32) (p2 : Int32) (p3 : Int32) (p4 : Int32) (R : Int32) (H : Heap) (hf : f_Tr_gap p1 p2 p3 p4 = some R) : Met l y_Tr_gap w_Tr_gap rm_Tr_gap (roP (dC, dI) tC H [.int p1, .int p2, .int p3, .int p4]) (roQ H (some (.int R))) 0 0 (fun _ => False) := by
  refine Met.ofW (cc := c_Tr_gap) (maxL := 6) (ret := (some (.int))) (by decide) rfl ?_
  intro p e s m args below meth c s₁ B hml hv
  obtain ⟨hav, hH, hK⟩ := hv
  have hx := B.exec
  have hb := B.bytes
  have hr := B.returns
  have hts : ∀ w ∈ gw, w.before args s = true := fun w h => atoms_spec (ws := w_Tr_gap) B.pre w (List.mem_cons_of_mem _ h)
  have hown : s.vm.findClass RX7 = some m.cls := findClass_of_methodNamed B.named
  have hlocks := B.notSynchronized
  subst hH
  refine q_w (R := rm_Tr_gap) (fun Q hQ => ?_)
  refine en_w (av := [.int p1, .int p2, .int p3, .int p4]) hav (Nat.le_of_ble_eq_true rfl) (fun ls hl => ?_)
  have hl : lv_has ls 6 [(0, .int p1), (1, .int p2), (2, .int p3), (3, .int p4)] := hl
  unfold f_Tr_gap at hf
  refine lv_iload_n hx hb d_Tr_gap_0 rfl (lv_at hl 2 rfl) ?_
  refine lv_iload_n hx hb d_Tr_gap_1 rfl (lv_at hl 2 rfl) ?_
  refine lv_iload_n hx hb d_Tr_gap_2 rfl (lv_at hl 3 rfl) ?_
  refine lv_iadd hx hb d_Tr_gap_3 ?_
  refine va_mmin hx hb (hml.trans hl.1.symm) hown (hts _ kM_7_76) (hts _ kS_min) (hts _ kZ_Math) (hts _ kC_min) (Nat.le_of_ble_eq_true rfl) (Nat.le_of_ble_eq_true rfl) (Nat.le_of_ble_eq_true rfl) (Nat.le_of_ble_eq_true rfl) d_Tr_gap_4 ?_
  refine lv_iload_n hx hb d_Tr_gap_7 rfl (lv_at hl 0 rfl) ?_
  refine lv_iload_n hx hb d_Tr_gap_8 rfl (lv_at hl 0 rfl) ?_
  refine lv_iload_n hx hb d_Tr_gap_9 rfl (lv_at hl 1 rfl) ?_
  refine lv_iadd hx hb d_Tr_gap_10 ?_
  refine va_mmax hx hb (hml.trans hl.1.symm) hown (hts _ kM_7_79) (hts _ kS_max) (hts _ kZ_Math) (hts _ kC_max) (Nat.le_of_ble_eq_true rfl) (Nat.le_of_ble_eq_true rfl) (Nat.le_of_ble_eq_true rfl) (Nat.le_of_ble_eq_true rfl) d_Tr_gap_11 ?_
  refine lv_isub hx hb d_Tr_gap_14 ?_
  obtain ⟨v1, hv1, hf⟩ := op_b hf
  refine rw_i (y := v1) (Option.some.inj hv1) ?_
  refine lv_istore (lv' := [(4, .int v1), (0, .int p1), (1, .int p2), (2, .int p3), (3, .int p4)]) hx hb d_Tr_gap_15 hl (by decide) rfl (fun ls hl => ?_)
  refine lv_iload_n hx hb d_Tr_gap_17 rfl (lv_at hl 1 rfl) ?_
  refine lv_iload_n hx hb d_Tr_gap_18 rfl (lv_at hl 1 rfl) ?_
  refine lv_iload_n hx hb d_Tr_gap_19 rfl (lv_at hl 2 rfl) ?_
  refine lv_iadd hx hb d_Tr_gap_20 ?_
  refine va_mmin hx hb (hml.trans hl.1.symm) hown (hts _ kM_7_76) (hts _ kS_min) (hts _ kZ_Math) (hts _ kC_min) (Nat.le_of_ble_eq_true rfl) (Nat.le_of_ble_eq_true rfl) (Nat.le_of_ble_eq_true rfl) (Nat.le_of_ble_eq_true rfl) d_Tr_gap_21 ?_
  refine lv_iload_n hx hb d_Tr_gap_24 rfl (lv_at hl 3 rfl) ?_
  refine lv_iload_n hx hb d_Tr_gap_25 rfl (lv_at hl 3 rfl) ?_
  refine lv_iload_n hx hb d_Tr_gap_26 rfl (lv_at hl 4 rfl) ?_
  refine lv_iadd hx hb d_Tr_gap_27 ?_
  refine va_mmax hx hb (hml.trans hl.1.symm) hown (hts _ kM_7_79) (hts _ kS_max) (hts _ kZ_Math) (hts _ kC_max) (Nat.le_of_ble_eq_true rfl) (Nat.le_of_ble_eq_true rfl) (Nat.le_of_ble_eq_true rfl) (Nat.le_of_ble_eq_true rfl) d_Tr_gap_28 ?_
  refine lv_isub hx hb d_Tr_gap_31 ?_
  obtain ⟨v2, hv2, hf⟩ := op_b hf
  refine rw_i (y := v2) (Option.some.inj hv2) ?_
  refine lv_istore (lv' := [(5, .int v2), (4, .int v1), (0, .int p1), (1, .int p2), (2, .int p3), (3, .int p4)]) hx hb d_Tr_gap_32 hl (by decide) rfl (fun ls hl => ?_)
  refine lv_iconst (v := 0) hx hb d_Tr_gap_34 (by decide) ?_
  refine lv_iload hx hb d_Tr_gap_35 (lv_at hl 1 rfl) ?_
  refine lv_iload hx hb d_Tr_gap_37 (lv_at hl 0 rfl) ?_
  refine va_mmax hx hb (hml.trans hl.1.symm) hown (hts _ kM_7_79) (hts _ kS_max) (hts _ kZ_Math) (hts _ kC_max) (Nat.le_of_ble_eq_true rfl) (Nat.le_of_ble_eq_true rfl) (Nat.le_of_ble_eq_true rfl) (Nat.le_of_ble_eq_true rfl) d_Tr_gap_39 ?_
  refine va_mmax hx hb (hml.trans hl.1.symm) hown (hts _ kM_7_79) (hts _ kS_max) (hts _ kZ_Math) (hts _ kC_max) (Nat.le_of_ble_eq_true rfl) (Nat.le_of_ble_eq_true rfl) (Nat.le_of_ble_eq_true rfl) (Nat.le_of_ble_eq_true rfl) d_Tr_gap_42 ?_
  obtain rfl := Option.some.inj hf
  subst hQ
  exact W.iret (v := if 0 < (if v1 < v2 then v2 else v1) then (if v1 < v2 then v2 else v1) else 0) hx hb hr (fun t ht hW => ⟨rfl, ht⟩) (fun q h => by cases h) d_Tr_gap_45
def f_Tr_go (tr : MS) (p1 : Int32) (p2 : Int32) (p3 : Int32) : Option (Unit × MS) := (if (tr.1 0) < 11 then if ix (tr.1 0) 11 then (some (sA tr 0 (upd (tr.2.1 0) (tr.1 0).toNatClampNeg (tr.1 1)))).bind fun tr3 => if ix (tr3.1 0) 11 then (some (sA tr3 1 (upd (tr3.2.1 1) (tr3.1 0).toNatClampNeg (tr3.1 2)))).bind fun tr5 => if ix (tr5.1 0) 11 then (some (sA tr5 2 (upd (tr5.2.1 2) (tr5.1 0).toNatClampNeg p1))).bind fun tr7 => if ix (tr7.1 0) 11 then (some (sA tr7 3 (upd (tr7.2.1 3) (tr7.1 0).toNatClampNeg p2))).bind fun tr9 => if ix (tr9.1 0) 11 then (some (sA tr9 4 (upd (tr9.2.1 4) (tr9.1 0).toNatClampNeg (vp_nar .boolean p3)))).bind fun tr11 => (some (sI tr11 1 ((tr11.1 1) + p1))).bind fun tr12 => (some (sI tr12 2 ((tr12.1 2) + p2))).bind fun tr13 => (some (sI tr13 0 ((tr13.1 0) + 1))).bind fun tr14 => some ((), tr14) else none else none else none else none else none else some ((), tr))
def rm_Tr_go : Room := { frames := 0, cells := 0, slots := 0, locals := 0 }
set_option maxHeartbeats 4000000 in
set_option maxRecDepth 100000 in
theorem m_Tr_go (l : Launch) (dC : Nat → ClassId) (dI : Nat → Nat → Nat) (tC : Nat → ClassId) (h_tr : Nat) (ad_tr : Nat → Nat) (tr : MS) (p1 : Int32) (p2 : Int32) (p3 : Int32) (R : Unit × MS) (hf : f_Tr_go tr p1 p2 p3 = some R) (sz : Nat) : Met l y_Tr_go w_Tr_go rm_Tr_go (wrP (dC, dI) tC (w_Tr_ h_tr ad_tr tC tr) sz [.ref h_tr, .int p1, .int p2, .int p3]) (wrQ (dC, dI) (w_Tr_ h_tr ad_tr tC tr) sz (fun r w => r = none ∧ w = (w_Tr_ h_tr ad_tr tC R.2))) 0 0 (va_A (w_Tr_ h_tr ad_tr tC tr) sz) := by
  refine Met.ofW (cc := c_Tr_go) (maxL := 4) (ret := none) (by decide) rfl ?_
  intro p e s m args below meth c s₁ B hml hv
  obtain ⟨hav, hsz, hP, hK, hD0⟩ := hv
  have hx := B.exec
  have hb := B.bytes
  have hr := B.returns
  have hts : ∀ w ∈ gw, w.before args s = true := fun w h => atoms_spec (ws := w_Tr_go) B.pre w (List.mem_cons_of_mem _ h)
  have hown : s.vm.findClass RX7 = some m.cls := findClass_of_methodNamed B.named
  have hlocks := B.notSynchronized
  subst hsz
  have hD := hD0.self (sz := s.heap.size)
  obtain ⟨A, hAe⟩ : ∃ z, z = va_A (w_Tr_ h_tr ad_tr tC tr) s.heap.size := ⟨_, rfl⟩
  rw [← hAe] at hD
  have hA : ∀ q : Nat, s.heap.size ≤ q → A q := fun q h => by rw [hAe]; exact Or.inr h
  have hS : va_S A s.heap s.heap [] := va_S.rf
  refine q_w (R := rm_Tr_go) (fun Q hQ => ?_)
  refine en_w (av := [.ref h_tr, .int p1, .int p2, .int p3]) hav (Nat.le_of_ble_eq_true rfl) (fun ls hl => ?_)
  have hl : lv_has ls 4 [(0, .ref h_tr), (1, .int p1), (2, .int p2), (3, .int p3)] := hl
  unfold f_Tr_go at hf
  refine lv_aload_n hx hb d_Tr_go_0 rfl (lv_at hl 0 rfl) ?_
  refine va_get (D := (dC, dI)) (ci := 7) (v := .int (tr.1 0)) (C := RX7) (T := TX7) (N := 8) hx hb hts in_X7 hown hK hP 0 rfl rfl 5 (by decide) (hts _ kF_7_28) (fun _ h9 => h9) rfl d_Tr_go_1 ?_
  refine lv_bipush (v := 11) hx hb d_Tr_go_4 (by decide) ?_
  refine lv_icmp_lt (tgt := 10) hx hb d_Tr_go_6 (by decide) (fun c1 => ?_) (fun c1 => ?_)
  · have hf := op_t hf c1
    refine lv_aload_n hx hb d_Tr_go_10 rfl (lv_at hl 0 rfl) ?_
    refine va_get (D := (dC, dI)) (ci := 7) (v := .ref (ad_tr 0)) (C := RX7) (T := TX7) (N := 8) hx hb hts in_X7 hown hK hP 0 rfl rfl 0 (by decide) (hts _ kF_7_11) (fun _ h9 => h9) rfl d_Tr_go_11 ?_
    refine lv_aload_n hx hb d_Tr_go_14 rfl (lv_at hl 0 rfl) ?_
    refine va_get (D := (dC, dI)) (ci := 7) (v := .int (tr.1 0)) (C := RX7) (T := TX7) (N := 8) hx hb hts in_X7 hown hK hP 0 rfl rfl 5 (by decide) (hts _ kF_7_28) (fun _ h9 => h9) rfl d_Tr_go_15 ?_
    refine lv_aload_n hx hb d_Tr_go_18 rfl (lv_at hl 0 rfl) ?_
    refine va_get (D := (dC, dI)) (ci := 7) (v := .int (tr.1 1)) (C := RX7) (T := TX7) (N := 8) hx hb hts in_X7 hown hK hP 0 rfl rfl 6 (by decide) (hts _ kF_7_37) (fun _ h9 => h9) rfl d_Tr_go_19 ?_
    obtain ⟨hi2, hf⟩ := op_if hf
    refine va_iast (f := tr.2.1 0) hx hb hK hP hD hS 1 0 rfl rfl (ix_in hi2) d_Tr_go_22 (fun H locs hP hD hS => ?_)
    rw [wu_Tr_a0] at hP hD
    obtain ⟨tr3, htr3, hf⟩ := op_b hf
    have hP : va_P (dC, dI) vwCl (w_Tr_ h_tr ad_tr tC tr3) H := by rw [← Option.some.inj htr3]; exact hP
    have hD : va_D A (w_Tr_ h_tr ad_tr tC tr3) := by rw [← Option.some.inj htr3]; exact hD
    refine lv_aload_n hx hb d_Tr_go_23 rfl (lv_at hl 0 rfl) ?_
    refine va_get (D := (dC, dI)) (ci := 7) (v := .ref (ad_tr 1)) (C := RX7) (T := TX7) (N := 8) hx hb hts in_X7 hown hK hP 0 rfl rfl 1 (by decide) (hts _ kF_7_15) (fun _ h9 => h9) rfl d_Tr_go_24 ?_
    refine lv_aload_n hx hb d_Tr_go_27 rfl (lv_at hl 0 rfl) ?_
    refine va_get (D := (dC, dI)) (ci := 7) (v := .int (tr3.1 0)) (C := RX7) (T := TX7) (N := 8) hx hb hts in_X7 hown hK hP 0 rfl rfl 5 (by decide) (hts _ kF_7_28) (fun _ h9 => h9) rfl d_Tr_go_28 ?_
    refine lv_aload_n hx hb d_Tr_go_31 rfl (lv_at hl 0 rfl) ?_
    refine va_get (D := (dC, dI)) (ci := 7) (v := .int (tr3.1 2)) (C := RX7) (T := TX7) (N := 8) hx hb hts in_X7 hown hK hP 0 rfl rfl 7 (by decide) (hts _ kF_7_41) (fun _ h9 => h9) rfl d_Tr_go_32 ?_
    obtain ⟨hi4, hf⟩ := op_if hf
    refine va_iast (f := tr3.2.1 1) hx hb hK hP hD hS 2 0 rfl rfl (ix_in hi4) d_Tr_go_35 (fun H locs hP hD hS => ?_)
    rw [wu_Tr_a1] at hP hD
    obtain ⟨tr5, htr5, hf⟩ := op_b hf
    have hP : va_P (dC, dI) vwCl (w_Tr_ h_tr ad_tr tC tr5) H := by rw [← Option.some.inj htr5]; exact hP
    have hD : va_D A (w_Tr_ h_tr ad_tr tC tr5) := by rw [← Option.some.inj htr5]; exact hD
    refine lv_aload_n hx hb d_Tr_go_36 rfl (lv_at hl 0 rfl) ?_
    refine va_get (D := (dC, dI)) (ci := 7) (v := .ref (ad_tr 2)) (C := RX7) (T := TX7) (N := 8) hx hb hts in_X7 hown hK hP 0 rfl rfl 2 (by decide) (hts _ kF_7_18) (fun _ h9 => h9) rfl d_Tr_go_37 ?_
    refine lv_aload_n hx hb d_Tr_go_40 rfl (lv_at hl 0 rfl) ?_
    refine va_get (D := (dC, dI)) (ci := 7) (v := .int (tr5.1 0)) (C := RX7) (T := TX7) (N := 8) hx hb hts in_X7 hown hK hP 0 rfl rfl 5 (by decide) (hts _ kF_7_28) (fun _ h9 => h9) rfl d_Tr_go_41 ?_
    refine lv_iload_n hx hb d_Tr_go_44 rfl (lv_at hl 1 rfl) ?_
    obtain ⟨hi6, hf⟩ := op_if hf
    refine va_iast (f := tr5.2.1 2) hx hb hK hP hD hS 3 0 rfl rfl (ix_in hi6) d_Tr_go_45 (fun H locs hP hD hS => ?_)
    rw [wu_Tr_a2] at hP hD
    obtain ⟨tr7, htr7, hf⟩ := op_b hf
    have hP : va_P (dC, dI) vwCl (w_Tr_ h_tr ad_tr tC tr7) H := by rw [← Option.some.inj htr7]; exact hP
    have hD : va_D A (w_Tr_ h_tr ad_tr tC tr7) := by rw [← Option.some.inj htr7]; exact hD
    refine lv_aload_n hx hb d_Tr_go_46 rfl (lv_at hl 0 rfl) ?_
    refine va_get (D := (dC, dI)) (ci := 7) (v := .ref (ad_tr 3)) (C := RX7) (T := TX7) (N := 8) hx hb hts in_X7 hown hK hP 0 rfl rfl 3 (by decide) (hts _ kF_7_21) (fun _ h9 => h9) rfl d_Tr_go_47 ?_
    refine lv_aload_n hx hb d_Tr_go_50 rfl (lv_at hl 0 rfl) ?_
    refine va_get (D := (dC, dI)) (ci := 7) (v := .int (tr7.1 0)) (C := RX7) (T := TX7) (N := 8) hx hb hts in_X7 hown hK hP 0 rfl rfl 5 (by decide) (hts _ kF_7_28) (fun _ h9 => h9) rfl d_Tr_go_51 ?_
    refine lv_iload_n hx hb d_Tr_go_54 rfl (lv_at hl 2 rfl) ?_
    obtain ⟨hi8, hf⟩ := op_if hf
    refine va_iast (f := tr7.2.1 3) hx hb hK hP hD hS 4 0 rfl rfl (ix_in hi8) d_Tr_go_55 (fun H locs hP hD hS => ?_)
    rw [wu_Tr_a3] at hP hD
    obtain ⟨tr9, htr9, hf⟩ := op_b hf
    have hP : va_P (dC, dI) vwCl (w_Tr_ h_tr ad_tr tC tr9) H := by rw [← Option.some.inj htr9]; exact hP
    have hD : va_D A (w_Tr_ h_tr ad_tr tC tr9) := by rw [← Option.some.inj htr9]; exact hD
    refine lv_aload_n hx hb d_Tr_go_56 rfl (lv_at hl 0 rfl) ?_
    refine va_get (D := (dC, dI)) (ci := 7) (v := .ref (ad_tr 4)) (C := RX7) (T := TX7) (N := 8) hx hb hts in_X7 hown hK hP 0 rfl rfl 4 (by decide) (hts _ kF_7_24) (fun _ h9 => h9) rfl d_Tr_go_57 ?_
    refine lv_aload_n hx hb d_Tr_go_60 rfl (lv_at hl 0 rfl) ?_
    refine va_get (D := (dC, dI)) (ci := 7) (v := .int (tr9.1 0)) (C := RX7) (T := TX7) (N := 8) hx hb hts in_X7 hown hK hP 0 rfl rfl 5 (by decide) (hts _ kF_7_28) (fun _ h9 => h9) rfl d_Tr_go_61 ?_
    refine lv_iload_n hx hb d_Tr_go_64 rfl (lv_at hl 3 rfl) ?_
    obtain ⟨hi10, hf⟩ := op_if hf
    refine va_zast (f := tr9.2.1 4) hx hb hK hP hD hS 5 3 rfl rfl (ix_in hi10) d_Tr_go_65 (fun H locs hP hD hS => ?_)
    rw [wu_Tr_a4] at hP hD
    obtain ⟨tr11, htr11, hf⟩ := op_b hf
    have hP : va_P (dC, dI) vwCl (w_Tr_ h_tr ad_tr tC tr11) H := by rw [← Option.some.inj htr11]; exact hP
    have hD : va_D A (w_Tr_ h_tr ad_tr tC tr11) := by rw [← Option.some.inj htr11]; exact hD
    refine lv_aload_n hx hb d_Tr_go_66 rfl (lv_at hl 0 rfl) ?_
    refine lv_dup hx hb d_Tr_go_67 rfl ?_
    refine va_get (D := (dC, dI)) (ci := 7) (v := .int (tr11.1 1)) (C := RX7) (T := TX7) (N := 8) hx hb hts in_X7 hown hK hP 0 rfl rfl 6 (by decide) (hts _ kF_7_37) (fun _ h9 => h9) rfl d_Tr_go_68 ?_
    refine lv_iload_n hx hb d_Tr_go_71 rfl (lv_at hl 1 rfl) ?_
    refine lv_iadd hx hb d_Tr_go_72 ?_
    refine va_put (D := (dC, dI)) (ci := 7) (v := .int ((tr11.1 1) + p1)) (ty := .int) (C := RX7) (T := TX7) (N := 8) hx hb hts in_X7 tyX7 tyX7_ok nmX7 hown hK hP hD hS 0 (fs := [.ref (ad_tr 0), .ref (ad_tr 1), .ref (ad_tr 2), .ref (ad_tr 3), .ref (ad_tr 4), .int (tr11.1 0), .int (tr11.1 1), .int (tr11.1 2)]) rfl rfl 6 (by decide) (hts _ kF_7_37) (fun _ h9 => h9) rfl (by decide +kernel) (rfl) (rfl) (Nat.le_of_ble_eq_true rfl) d_Tr_go_73 (fun H locs hP hD hS => ?_)
    rw [wu_Tr_s1] at hP hD
    obtain ⟨tr12, htr12, hf⟩ := op_b hf
    have hP : va_P (dC, dI) vwCl (w_Tr_ h_tr ad_tr tC tr12) H := by rw [← Option.some.inj htr12]; exact hP
    have hD : va_D A (w_Tr_ h_tr ad_tr tC tr12) := by rw [← Option.some.inj htr12]; exact hD
    refine lv_aload_n hx hb d_Tr_go_76 rfl (lv_at hl 0 rfl) ?_
    refine lv_dup hx hb d_Tr_go_77 rfl ?_
    refine va_get (D := (dC, dI)) (ci := 7) (v := .int (tr12.1 2)) (C := RX7) (T := TX7) (N := 8) hx hb hts in_X7 hown hK hP 0 rfl rfl 7 (by decide) (hts _ kF_7_41) (fun _ h9 => h9) rfl d_Tr_go_78 ?_
    refine lv_iload_n hx hb d_Tr_go_81 rfl (lv_at hl 2 rfl) ?_
    refine lv_iadd hx hb d_Tr_go_82 ?_
    refine va_put (D := (dC, dI)) (ci := 7) (v := .int ((tr12.1 2) + p2)) (ty := .int) (C := RX7) (T := TX7) (N := 8) hx hb hts in_X7 tyX7 tyX7_ok nmX7 hown hK hP hD hS 0 (fs := [.ref (ad_tr 0), .ref (ad_tr 1), .ref (ad_tr 2), .ref (ad_tr 3), .ref (ad_tr 4), .int (tr12.1 0), .int (tr12.1 1), .int (tr12.1 2)]) rfl rfl 7 (by decide) (hts _ kF_7_41) (fun _ h9 => h9) rfl (by decide +kernel) (rfl) (rfl) (Nat.le_of_ble_eq_true rfl) d_Tr_go_83 (fun H locs hP hD hS => ?_)
    rw [wu_Tr_s2] at hP hD
    obtain ⟨tr13, htr13, hf⟩ := op_b hf
    have hP : va_P (dC, dI) vwCl (w_Tr_ h_tr ad_tr tC tr13) H := by rw [← Option.some.inj htr13]; exact hP
    have hD : va_D A (w_Tr_ h_tr ad_tr tC tr13) := by rw [← Option.some.inj htr13]; exact hD
    refine lv_aload_n hx hb d_Tr_go_86 rfl (lv_at hl 0 rfl) ?_
    refine lv_dup hx hb d_Tr_go_87 rfl ?_
    refine va_get (D := (dC, dI)) (ci := 7) (v := .int (tr13.1 0)) (C := RX7) (T := TX7) (N := 8) hx hb hts in_X7 hown hK hP 0 rfl rfl 5 (by decide) (hts _ kF_7_28) (fun _ h9 => h9) rfl d_Tr_go_88 ?_
    refine lv_iconst (v := 1) hx hb d_Tr_go_91 (by decide) ?_
    refine lv_iadd hx hb d_Tr_go_92 ?_
    refine va_put (D := (dC, dI)) (ci := 7) (v := .int ((tr13.1 0) + 1)) (ty := .int) (C := RX7) (T := TX7) (N := 8) hx hb hts in_X7 tyX7 tyX7_ok nmX7 hown hK hP hD hS 0 (fs := [.ref (ad_tr 0), .ref (ad_tr 1), .ref (ad_tr 2), .ref (ad_tr 3), .ref (ad_tr 4), .int (tr13.1 0), .int (tr13.1 1), .int (tr13.1 2)]) rfl rfl 5 (by decide) (hts _ kF_7_28) (fun _ h9 => h9) rfl (by decide +kernel) (rfl) (rfl) (Nat.le_of_ble_eq_true rfl) d_Tr_go_93 (fun H locs hP hD hS => ?_)
    rw [wu_Tr_s0] at hP hD
    obtain ⟨tr14, htr14, hf⟩ := op_b hf
    have hP : va_P (dC, dI) vwCl (w_Tr_ h_tr ad_tr tC tr14) H := by rw [← Option.some.inj htr14]; exact hP
    have hD : va_D A (w_Tr_ h_tr ad_tr tC tr14) := by rw [← Option.some.inj htr14]; exact hD
    obtain rfl := Option.some.inj hf
    subst hQ
    subst hAe
    exact W.vret hx hb hr (fun t ht hW => ⟨⟨_, _, rfl, ⟨rfl, rfl⟩, by rw [ht]; exact hP, hD⟩, hS.F ht⟩) hS.2.2 d_Tr_go_96
  · have hf := op_e hf c1
    obtain rfl := Option.some.inj hf
    subst hQ
    subst hAe
    exact W.vret hx hb hr (fun t ht hW => ⟨⟨_, _, rfl, ⟨rfl, rfl⟩, by rw [ht]; exact hP, hD⟩, hS.F ht⟩) hS.2.2 d_Tr_go_9
def l_Tr_leastSquareTo_19 : Nat → Int64 → Int32 → Int32 → MS → MS → Option (Int64 × Int32)
  | 0, _, _, _, _, _ => none
  | n + 1, x2, x4, x5, tr, tu => (if (tu.1 0) ≤ x5 then some (x2, x5) else if ix x4 11 then (if ((tr.2.1 4) x4.toNatClampNeg) = 0 then l_Tr_leastSquareTo_19 n x2 x4 (x5 + 1) tr tu else if ix x5 11 then (if ((tu.2.1 4) x5.toNatClampNeg) = 0 then l_Tr_leastSquareTo_19 n x2 x4 (x5 + 1) tr tu else if ix x4 11 then if ix x4 11 then if ix x5 11 then if ix x5 11 then (f_Tr_gap ((tr.2.1 0) x4.toNatClampNeg) ((tr.2.1 2) x4.toNatClampNeg) ((tu.2.1 0) x5.toNatClampNeg) ((tu.2.1 2) x5.toNatClampNeg)).bind fun q13 => if ix x4 11 then if ix x4 11 then if ix x5 11 then if ix x5 11 then (f_Tr_gap ((tr.2.1 1) x4.toNatClampNeg) ((tr.2.1 3) x4.toNatClampNeg) ((tu.2.1 1) x5.toNatClampNeg) ((tu.2.1 3) x5.toNatClampNeg)).bind fun q18 => (some (if ((q13.toInt64 * q13.toInt64) + (q18.toInt64 * q18.toInt64)) < x2 then ((q13.toInt64 * q13.toInt64) + (q18.toInt64 * q18.toInt64)) else x2) : Option Int64).bind fun v19 => l_Tr_leastSquareTo_19 n v19 x4 (x5 + 1) tr tu else none else none else none else none else none else none else none else none) else none) else none)
def l_Tr_leastSquareTo_7 : Nat → Int64 → Int32 → MS → MS → Option (Int64 × Int32)
  | 0, _, _, _, _ => none
  | n + 1, x2, x4, tr, tu => (if (tr.1 0) ≤ x4 then some (x2, x4) else (l_Tr_leastSquareTo_19 fu x2 x4 0 tr tu).bind fun q3 => l_Tr_leastSquareTo_7 n q3.1 (x4 + 1) tr tu)
def f_Tr_leastSquareTo (tr : MS) (tu : MS) : Option (Int64) := (l_Tr_leastSquareTo_7 fu 1152921504606846976 0 tr tu).bind fun q1 => some q1.1
def rm_Tr_leastSquareTo : Room := { frames := 2, cells := 0, slots := 0, locals := 55 }
set_option maxHeartbeats 4000000 in
set_option maxRecDepth 100000 in
theorem m_Tr_leastSquareTo (l : Launch) (dC : Nat → ClassId) (dI : Nat → Nat → Nat) (tC : Nat → ClassId) (h_tr : Nat) (ad_tr : Nat → Nat) (tr : MS) (h_tu : Nat) (ad_tu : Nat → Nat) (tu : MS) (R : Int64) (H : Heap) (hP : va_P (dC, dI) vwCl (w_Tr_ h_tr ad_tr tC tr ++ w_Tr_ h_tu ad_tu tC tu) H) (hf : f_Tr_leastSquareTo tr tu = some R) : Met l y_Tr_leastSquareTo w_Tr_leastSquareTo rm_Tr_leastSquareTo (roP (dC, dI) tC H [.ref h_tr, .ref h_tu]) (roQ H (some (.long R))) 0 0 (fun _ => False) := by
  refine Met.ofW (cc := c_Tr_leastSquareTo) (maxL := 10) (ret := (some (.long))) (by decide) rfl ?_
  intro p e s m args below meth c s₁ B hml hv
  obtain ⟨hav, hH, hK⟩ := hv
  have hx := B.exec
  have hb := B.bytes
  have hr := B.returns
  have hts : ∀ w ∈ gw, w.before args s = true := fun w h => atoms_spec (ws := w_Tr_leastSquareTo) B.pre w (List.mem_cons_of_mem _ h)
  have hown : s.vm.findClass RX7 = some m.cls := findClass_of_methodNamed B.named
  have hlocks := B.notSynchronized
  subst hH
  refine q_w (R := rm_Tr_leastSquareTo) (fun Q hQ => ?_)
  refine en_w (av := [.ref h_tr, .ref h_tu]) hav (Nat.le_of_ble_eq_true rfl) (fun ls hl => ?_)
  have hl : lv_has ls 10 [(0, .ref h_tr), (1, .ref h_tu)] := hl
  unfold f_Tr_leastSquareTo at hf
  refine lv_ldc2 (v := 1152921504606846976) hx hb hown (hts _ kK_7_64) d_Tr_leastSquareTo_0 ?_
  refine lv_lstore_n (lv' := [(2, .long 1152921504606846976), (0, .ref h_tr), (1, .ref h_tu)]) hx hb d_Tr_leastSquareTo_3 rfl hl (by decide) rfl (fun ls hl => ?_)
  refine lv_iconst (v := 0) hx hb d_Tr_leastSquareTo_4 (by decide) ?_
  refine lv_istore (lv' := [(4, .int 0), (2, .long 1152921504606846976), (0, .ref h_tr), (1, .ref h_tu)]) hx hb d_Tr_leastSquareTo_5 hl (by decide) rfl (fun ls hl => ?_)
  have lp_7 : ∀ (n : Nat) (x2 : Int64) (x4 : Int32) (Rl : Int64 × Int32), l_Tr_leastSquareTo_7 n x2 x4 tr tu = some Rl → ∀ ls : Array Slot, lv_has ls 10 [(4, .int x4), (2, .long x2), (0, .ref h_tr), (1, .ref h_tu)] → (∀ ls : Array Slot, lv_has ls 10 [(4, .int Rl.2), (2, .long Rl.1), (0, .ref h_tr), (1, .ref h_tu)] → W p l e rm_Tr_leastSquareTo s m args below meth c s.heap [] 0 0 Q (F0 m 144 ls [])) → W p l e rm_Tr_leastSquareTo s m args below meth c s.heap [] 0 0 Q (F0 m 7 ls []) := by
    intro n
    induction n with
    | zero => intro x2 x4 Rl hf; cases hf
    | succ n ih_7 =>
      intro x2 x4 Rl hf ls hl Kk
      rw [l_Tr_leastSquareTo_7] at hf
      refine lv_iload hx hb d_Tr_leastSquareTo_7 (lv_at hl 0 rfl) ?_
      refine lv_aload_n hx hb d_Tr_leastSquareTo_9 rfl (lv_at hl 2 rfl) ?_
      refine va_get (D := (dC, dI)) (ci := 7) (v := .int (tr.1 0)) (C := RX7) (T := TX7) (N := 8) hx hb hts in_X7 hown hK hP 0 rfl rfl 5 (by decide) (hts _ kF_7_28) (fun _ h9 => h9) rfl d_Tr_leastSquareTo_10 ?_
      refine lv_icmp_ge (tgt := 144) hx hb d_Tr_leastSquareTo_13 (by decide) (fun c2 => ?_) (fun c2 => ?_)
      · have hf := op_t hf c2
        obtain rfl := Option.some.inj hf
        exact Kk _ (lv_sub hl [0, 1, 2, 3] rfl)
      · have hf := op_e hf c2
        refine lv_iconst (v := 0) hx hb d_Tr_leastSquareTo_16 (by decide) ?_
        refine lv_istore (lv' := [(5, .int 0), (4, .int x4), (2, .long x2), (0, .ref h_tr), (1, .ref h_tu)]) hx hb d_Tr_leastSquareTo_17 hl (by decide) rfl (fun ls hl => ?_)
        have lp_19 : ∀ (n : Nat) (x2 : Int64) (x4 : Int32) (x5 : Int32) (Rl : Int64 × Int32), l_Tr_leastSquareTo_19 n x2 x4 x5 tr tu = some Rl → ∀ ls : Array Slot, lv_has ls 10 [(5, .int x5), (4, .int x4), (2, .long x2), (0, .ref h_tr), (1, .ref h_tu)] → (∀ ls : Array Slot, lv_has ls 10 [(5, .int Rl.2), (4, .int x4), (2, .long Rl.1), (0, .ref h_tr), (1, .ref h_tu)] → W p l e rm_Tr_leastSquareTo s m args below meth c s.heap [] 0 0 Q (F0 m 138 ls [])) → W p l e rm_Tr_leastSquareTo s m args below meth c s.heap [] 0 0 Q (F0 m 19 ls []) := by
          intro n
          induction n with
          | zero => intro x2 x4 x5 Rl hf; cases hf
          | succ n ih_19 =>
            intro x2 x4 x5 Rl hf ls hl Kk
            rw [l_Tr_leastSquareTo_19] at hf
            refine lv_iload hx hb d_Tr_leastSquareTo_19 (lv_at hl 0 rfl) ?_
            refine lv_aload_n hx hb d_Tr_leastSquareTo_21 rfl (lv_at hl 4 rfl) ?_
            refine va_get (D := (dC, dI)) (ci := 7) (v := .int (tu.1 0)) (C := RX7) (T := TX7) (N := 8) hx hb hts in_X7 hown hK hP 6 rfl rfl 5 (by decide) (hts _ kF_7_28) (fun _ h9 => h9) rfl d_Tr_leastSquareTo_22 ?_
            refine lv_icmp_ge (tgt := 138) hx hb d_Tr_leastSquareTo_25 (by decide) (fun c4 => ?_) (fun c4 => ?_)
            · have hf := op_t hf c4
              obtain rfl := Option.some.inj hf
              exact Kk _ (lv_sub hl [0, 1, 2, 3, 4] rfl)
            · have hf := op_e hf c4
              refine lv_aload_n hx hb d_Tr_leastSquareTo_28 rfl (lv_at hl 3 rfl) ?_
              refine va_get (D := (dC, dI)) (ci := 7) (v := .ref (ad_tr 4)) (C := RX7) (T := TX7) (N := 8) hx hb hts in_X7 hown hK hP 0 rfl rfl 4 (by decide) (hts _ kF_7_24) (fun _ h9 => h9) rfl d_Tr_leastSquareTo_29 ?_
              refine lv_iload hx hb d_Tr_leastSquareTo_32 (lv_at hl 1 rfl) ?_
              obtain ⟨hi5, hf⟩ := op_if hf
              refine va_zald (f := tr.2.1 4) hx hb hK hP 5 3 rfl rfl (ix_in hi5) d_Tr_leastSquareTo_34 ?_
              refine lv_if_eq (tgt := 132) hx hb d_Tr_leastSquareTo_35 (by decide) (fun c6 => ?_) (fun c6 => ?_)
              · have hf := op_t hf c6
                refine lv_iinc (v := x5 + 1) (lv' := [(5, .int (x5 + 1)), (4, .int x4), (2, .long x2), (0, .ref h_tr), (1, .ref h_tu)]) hx hb d_Tr_leastSquareTo_132 hl (k := 0) rfl rfl (by decide) rfl (fun ls hl => ?_)
                refine lv_goto (tgt := 19) hx hb d_Tr_leastSquareTo_135 (by decide) ?_
                exact ih_19 x2 x4 (x5 + 1) Rl hf _ (lv_sub hl [0, 1, 2, 3, 4] rfl) Kk
              · have hf := op_e hf c6
                refine lv_aload_n hx hb d_Tr_leastSquareTo_38 rfl (lv_at hl 4 rfl) ?_
                refine va_get (D := (dC, dI)) (ci := 7) (v := .ref (ad_tu 4)) (C := RX7) (T := TX7) (N := 8) hx hb hts in_X7 hown hK hP 6 rfl rfl 4 (by decide) (hts _ kF_7_24) (fun _ h9 => h9) rfl d_Tr_leastSquareTo_39 ?_
                refine lv_iload hx hb d_Tr_leastSquareTo_42 (lv_at hl 0 rfl) ?_
                obtain ⟨hi7, hf⟩ := op_if hf
                refine va_zald (f := tu.2.1 4) hx hb hK hP 11 3 rfl rfl (ix_in hi7) d_Tr_leastSquareTo_44 ?_
                refine lv_if_eq (tgt := 132) hx hb d_Tr_leastSquareTo_45 (by decide) (fun c8 => ?_) (fun c8 => ?_)
                · have hf := op_t hf c8
                  refine lv_iinc (v := x5 + 1) (lv' := [(5, .int (x5 + 1)), (4, .int x4), (2, .long x2), (0, .ref h_tr), (1, .ref h_tu)]) hx hb d_Tr_leastSquareTo_132 hl (k := 0) rfl rfl (by decide) rfl (fun ls hl => ?_)
                  refine lv_goto (tgt := 19) hx hb d_Tr_leastSquareTo_135 (by decide) ?_
                  exact ih_19 x2 x4 (x5 + 1) Rl hf _ (lv_sub hl [0, 1, 2, 3, 4] rfl) Kk
                · have hf := op_e hf c8
                  refine lv_aload_n hx hb d_Tr_leastSquareTo_48 rfl (lv_at hl 3 rfl) ?_
                  refine va_get (D := (dC, dI)) (ci := 7) (v := .ref (ad_tr 0)) (C := RX7) (T := TX7) (N := 8) hx hb hts in_X7 hown hK hP 0 rfl rfl 0 (by decide) (hts _ kF_7_11) (fun _ h9 => h9) rfl d_Tr_leastSquareTo_49 ?_
                  refine lv_iload hx hb d_Tr_leastSquareTo_52 (lv_at hl 1 rfl) ?_
                  obtain ⟨hi9, hf⟩ := op_if hf
                  refine va_iald (f := tr.2.1 0) hx hb hK hP 1 0 rfl rfl (ix_in hi9) d_Tr_leastSquareTo_54 ?_
                  refine lv_aload_n hx hb d_Tr_leastSquareTo_55 rfl (lv_at hl 3 rfl) ?_
                  refine va_get (D := (dC, dI)) (ci := 7) (v := .ref (ad_tr 2)) (C := RX7) (T := TX7) (N := 8) hx hb hts in_X7 hown hK hP 0 rfl rfl 2 (by decide) (hts _ kF_7_18) (fun _ h9 => h9) rfl d_Tr_leastSquareTo_56 ?_
                  refine lv_iload hx hb d_Tr_leastSquareTo_59 (lv_at hl 1 rfl) ?_
                  obtain ⟨hi10, hf⟩ := op_if hf
                  refine va_iald (f := tr.2.1 2) hx hb hK hP 3 0 rfl rfl (ix_in hi10) d_Tr_leastSquareTo_61 ?_
                  refine lv_aload_n hx hb d_Tr_leastSquareTo_62 rfl (lv_at hl 4 rfl) ?_
                  refine va_get (D := (dC, dI)) (ci := 7) (v := .ref (ad_tu 0)) (C := RX7) (T := TX7) (N := 8) hx hb hts in_X7 hown hK hP 6 rfl rfl 0 (by decide) (hts _ kF_7_11) (fun _ h9 => h9) rfl d_Tr_leastSquareTo_63 ?_
                  refine lv_iload hx hb d_Tr_leastSquareTo_66 (lv_at hl 0 rfl) ?_
                  obtain ⟨hi11, hf⟩ := op_if hf
                  refine va_iald (f := tu.2.1 0) hx hb hK hP 7 0 rfl rfl (ix_in hi11) d_Tr_leastSquareTo_68 ?_
                  refine lv_aload_n hx hb d_Tr_leastSquareTo_69 rfl (lv_at hl 4 rfl) ?_
                  refine va_get (D := (dC, dI)) (ci := 7) (v := .ref (ad_tu 2)) (C := RX7) (T := TX7) (N := 8) hx hb hts in_X7 hown hK hP 6 rfl rfl 2 (by decide) (hts _ kF_7_18) (fun _ h9 => h9) rfl d_Tr_leastSquareTo_70 ?_
                  refine lv_iload hx hb d_Tr_leastSquareTo_73 (lv_at hl 0 rfl) ?_
                  obtain ⟨hi12, hf⟩ := op_if hf
                  refine va_iald (f := tu.2.1 2) hx hb hK hP 9 0 rfl rfl (ix_in hi12) d_Tr_leastSquareTo_75 ?_
                  obtain ⟨q13, hq13, hf⟩ := op_b hf
                  refine ro_go rfl (va_runS (As := [.int ((tr.2.1 0) x4.toNatClampNeg), .int ((tr.2.1 2) x4.toNatClampNeg), .int ((tu.2.1 0) x5.toNatClampNeg), .int ((tu.2.1 2) x5.toNatClampNeg)]) (rest := []) ⟨hx, hb, hml, hown, hts⟩ (m_Tr_gap l dC dI tC ((tr.2.1 0) x4.toNatClampNeg) ((tr.2.1 2) x4.toNatClampNeg) ((tu.2.1 0) x5.toNatClampNeg) ((tu.2.1 2) x5.toNatClampNeg) q13 _  hq13) (cwS 4 hts (gd_S kM_7_66 kS_Tr_gap kZ_7 kC_Tr_gap) rfl rfl rfl (by decide +kernel) ⟨(Nat.le_of_ble_eq_true rfl), (Nat.le_of_ble_eq_true rfl)⟩) ⟨ro_blind, ro_pre hK⟩ rfl rfl hl.1 rfl (lv_room (Nat.le_of_ble_eq_true rfl)) d_Tr_leastSquareTo_76 ⟨(Nat.le_of_ble_eq_true rfl), (Nat.le_of_ble_eq_true rfl)⟩) ?_
                  refine W.eq (g2 := F0 m 79 ls [.int q13]) rfl ?_
                  refine lv_i2l (v := q13.toInt64) hx hb d_Tr_leastSquareTo_79 rfl ?_
                  refine lv_lstore (lv' := [(6, .long q13.toInt64), (5, .int x5), (4, .int x4), (2, .long x2), (0, .ref h_tr), (1, .ref h_tu)]) hx hb d_Tr_leastSquareTo_80 hl (by decide) rfl (fun ls hl => ?_)
                  refine lv_aload_n hx hb d_Tr_leastSquareTo_82 rfl (lv_at hl 4 rfl) ?_
                  refine va_get (D := (dC, dI)) (ci := 7) (v := .ref (ad_tr 1)) (C := RX7) (T := TX7) (N := 8) hx hb hts in_X7 hown hK hP 0 rfl rfl 1 (by decide) (hts _ kF_7_15) (fun _ h9 => h9) rfl d_Tr_leastSquareTo_83 ?_
                  refine lv_iload hx hb d_Tr_leastSquareTo_86 (lv_at hl 2 rfl) ?_
                  obtain ⟨hi14, hf⟩ := op_if hf
                  refine va_iald (f := tr.2.1 1) hx hb hK hP 2 0 rfl rfl (ix_in hi14) d_Tr_leastSquareTo_88 ?_
                  refine lv_aload_n hx hb d_Tr_leastSquareTo_89 rfl (lv_at hl 4 rfl) ?_
                  refine va_get (D := (dC, dI)) (ci := 7) (v := .ref (ad_tr 3)) (C := RX7) (T := TX7) (N := 8) hx hb hts in_X7 hown hK hP 0 rfl rfl 3 (by decide) (hts _ kF_7_21) (fun _ h9 => h9) rfl d_Tr_leastSquareTo_90 ?_
                  refine lv_iload hx hb d_Tr_leastSquareTo_93 (lv_at hl 2 rfl) ?_
                  obtain ⟨hi15, hf⟩ := op_if hf
                  refine va_iald (f := tr.2.1 3) hx hb hK hP 4 0 rfl rfl (ix_in hi15) d_Tr_leastSquareTo_95 ?_
                  refine lv_aload_n hx hb d_Tr_leastSquareTo_96 rfl (lv_at hl 5 rfl) ?_
                  refine va_get (D := (dC, dI)) (ci := 7) (v := .ref (ad_tu 1)) (C := RX7) (T := TX7) (N := 8) hx hb hts in_X7 hown hK hP 6 rfl rfl 1 (by decide) (hts _ kF_7_15) (fun _ h9 => h9) rfl d_Tr_leastSquareTo_97 ?_
                  refine lv_iload hx hb d_Tr_leastSquareTo_100 (lv_at hl 1 rfl) ?_
                  obtain ⟨hi16, hf⟩ := op_if hf
                  refine va_iald (f := tu.2.1 1) hx hb hK hP 8 0 rfl rfl (ix_in hi16) d_Tr_leastSquareTo_102 ?_
                  refine lv_aload_n hx hb d_Tr_leastSquareTo_103 rfl (lv_at hl 5 rfl) ?_
                  refine va_get (D := (dC, dI)) (ci := 7) (v := .ref (ad_tu 3)) (C := RX7) (T := TX7) (N := 8) hx hb hts in_X7 hown hK hP 6 rfl rfl 3 (by decide) (hts _ kF_7_21) (fun _ h9 => h9) rfl d_Tr_leastSquareTo_104 ?_
                  refine lv_iload hx hb d_Tr_leastSquareTo_107 (lv_at hl 1 rfl) ?_
                  obtain ⟨hi17, hf⟩ := op_if hf
                  refine va_iald (f := tu.2.1 3) hx hb hK hP 10 0 rfl rfl (ix_in hi17) d_Tr_leastSquareTo_109 ?_
                  obtain ⟨q18, hq18, hf⟩ := op_b hf
                  refine ro_go rfl (va_runS (As := [.int ((tr.2.1 1) x4.toNatClampNeg), .int ((tr.2.1 3) x4.toNatClampNeg), .int ((tu.2.1 1) x5.toNatClampNeg), .int ((tu.2.1 3) x5.toNatClampNeg)]) (rest := []) ⟨hx, hb, hml, hown, hts⟩ (m_Tr_gap l dC dI tC ((tr.2.1 1) x4.toNatClampNeg) ((tr.2.1 3) x4.toNatClampNeg) ((tu.2.1 1) x5.toNatClampNeg) ((tu.2.1 3) x5.toNatClampNeg) q18 _  hq18) (cwS 4 hts (gd_S kM_7_66 kS_Tr_gap kZ_7 kC_Tr_gap) rfl rfl rfl (by decide +kernel) ⟨(Nat.le_of_ble_eq_true rfl), (Nat.le_of_ble_eq_true rfl)⟩) ⟨ro_blind, ro_pre hK⟩ rfl rfl hl.1 rfl (lv_room (Nat.le_of_ble_eq_true rfl)) d_Tr_leastSquareTo_110 ⟨(Nat.le_of_ble_eq_true rfl), (Nat.le_of_ble_eq_true rfl)⟩) ?_
                  refine W.eq (g2 := F0 m 113 ls [.int q18]) rfl ?_
                  refine lv_i2l (v := q18.toInt64) hx hb d_Tr_leastSquareTo_113 rfl ?_
                  refine lv_lstore (lv' := [(8, .long q18.toInt64), (6, .long q13.toInt64), (5, .int x5), (4, .int x4), (2, .long x2), (0, .ref h_tr), (1, .ref h_tu)]) hx hb d_Tr_leastSquareTo_114 hl (by decide) rfl (fun ls hl => ?_)
                  refine lv_lload_n hx hb d_Tr_leastSquareTo_116 rfl (lv_at hl 4 rfl) ?_
                  refine lv_lload hx hb d_Tr_leastSquareTo_117 (lv_at hl 1 rfl) ?_
                  refine lv_lload hx hb d_Tr_leastSquareTo_119 (lv_at hl 1 rfl) ?_
                  refine lv_lmul hx hb d_Tr_leastSquareTo_121 ?_
                  refine lv_lload hx hb d_Tr_leastSquareTo_122 (lv_at hl 0 rfl) ?_
                  refine lv_lload hx hb d_Tr_leastSquareTo_124 (lv_at hl 0 rfl) ?_
                  refine lv_lmul hx hb d_Tr_leastSquareTo_126 ?_
                  refine lv_ladd hx hb d_Tr_leastSquareTo_127 ?_
                  refine va_mmin_long hx hb (hml.trans hl.1.symm) hown (hts _ kM_7_70) (hts _ kS_minl) (hts _ kZ_Math) (hts _ kC_minl) (Nat.le_of_ble_eq_true rfl) (Nat.le_of_ble_eq_true rfl) (Nat.le_of_ble_eq_true rfl) (Nat.le_of_ble_eq_true rfl) d_Tr_leastSquareTo_128 ?_
                  obtain ⟨v19, hv19, hf⟩ := op_b hf
                  refine rw_l (y := v19) (Option.some.inj hv19) ?_
                  refine lv_lstore_n (lv' := [(2, .long v19), (8, .long q18.toInt64), (6, .long q13.toInt64), (5, .int x5), (4, .int x4), (0, .ref h_tr), (1, .ref h_tu)]) hx hb d_Tr_leastSquareTo_131 rfl hl (by decide) rfl (fun ls hl => ?_)
                  refine lv_iinc (v := x5 + 1) (lv' := [(5, .int (x5 + 1)), (2, .long v19), (8, .long q18.toInt64), (6, .long q13.toInt64), (4, .int x4), (0, .ref h_tr), (1, .ref h_tu)]) hx hb d_Tr_leastSquareTo_132 hl (k := 3) rfl rfl (by decide) rfl (fun ls hl => ?_)
                  refine lv_goto (tgt := 19) hx hb d_Tr_leastSquareTo_135 (by decide) ?_
                  exact ih_19 v19 x4 (x5 + 1) Rl hf _ (lv_sub hl [0, 4, 1, 5, 6] rfl) Kk
        obtain ⟨q3, hq3, hf⟩ := op_b hf
        refine lp_19 fu x2 x4 0 q3 hq3 _ (lv_sub hl [0, 1, 2, 3, 4] rfl) ?_
        intro ls hl
        refine lv_iinc (v := x4 + 1) (lv' := [(4, .int (x4 + 1)), (5, .int q3.2), (2, .long q3.1), (0, .ref h_tr), (1, .ref h_tu)]) hx hb d_Tr_leastSquareTo_138 hl (k := 1) rfl rfl (by decide) rfl (fun ls hl => ?_)
        refine lv_goto (tgt := 7) hx hb d_Tr_leastSquareTo_141 (by decide) ?_
        exact ih_7 q3.1 (x4 + 1) Rl hf _ (lv_sub hl [0, 2, 3, 4] rfl) Kk
  obtain ⟨q1, hq1, hf⟩ := op_b hf
  refine lp_7 fu 1152921504606846976 0 q1 hq1 _ (lv_sub hl [0, 1, 2, 3] rfl) ?_
  intro ls hl
  refine lv_lload_n hx hb d_Tr_leastSquareTo_144 rfl (lv_at hl 1 rfl) ?_
  obtain rfl := Option.some.inj hf
  subst hQ
  exact W.lret (v := q1.1) hx hb hr (fun t ht hW => ⟨rfl, ht⟩) (fun q h => by cases h) d_Tr_leastSquareTo_145
def l_Tr_follow_28 : Nat → Int32 → Int32 → Int32 → Nat → MS → MS → MS → Option (Int32 × Int32 × Int32 × MS)
  | 0, _, _, _, _, _, _, _ => none
  | n + 1, x2, x3, x4, sh_nT, tr, ln, sh => (if (sh.1 0) ≤ x4 then some (x2, x3, x4, tr) else (f_Sh_bendBefore sh_nT sh x4).bind fun q6 => ((if q6 = 76 then (some (-x3) : Option Int32).bind fun v8 => some (x2, v8, tr) else (if q6 = 82 then (some (-x2) : Option Int32).bind fun v9 => some (v9, x3, tr) else (if q6 = 85 then (some (3 * (ln.1 1)) : Option Int32).bind fun v10 => (f_Tr_go tr ((-x3) * v10) (x2 * v10) 0).bind fun q11 => (some (-x2) : Option Int32).bind fun v12 => (some (-x3) : Option Int32).bind fun v13 => some (v13, v12, q11.2) else some (x3, x2, tr)))) : Option (Int32 × Int32 × MS)).bind fun q7 => if ix x4 6 then if ix x4 6 then (f_Tr_go q7.2.2 (q7.2.1 * ((ln.2.1 0) x4.toNatClampNeg)) (q7.1 * ((ln.2.1 0) x4.toNatClampNeg)) 1).bind fun q16 => l_Tr_follow_28 n q7.2.1 q7.1 (x4 + 1) sh_nT q16.2 ln sh else none else none)
def f_Tr_follow (tr : MS) (ln : MS) (sh_nT : Nat) (sh : MS) : Option (Unit × MS) := (some (sI tr 0 0)).bind fun tr1 => (some (sI tr1 1 (ln.1 4))).bind fun tr2 => (some (sI tr2 2 (ln.1 5))).bind fun tr3 => (l_Tr_follow_28 fu 1 0 0 sh_nT tr3 ln sh).bind fun q4 => some ((), q4.2.2.2)
def rm_Tr_follow : Room := { frames := 1, cells := 0, slots := 0, locals := 23 }
set_option maxHeartbeats 4000000 in
set_option maxRecDepth 100000 in
theorem m_Tr_follow (l : Launch) (dC : Nat → ClassId) (dI : Nat → Nat → Nat) (tC : Nat → ClassId) (h_tr : Nat) (ad_tr : Nat → Nat) (tr : MS) (h_ln : Nat) (ad_ln : Nat → Nat) (ln : MS) (ad_sh : Nat → Nat) (sh_nT : Nat) (sh : MS) (R : Unit × MS) (hf : f_Tr_follow tr ln sh_nT sh = some R) (sz : Nat) : Met l y_Tr_follow w_Tr_follow rm_Tr_follow (wrP (dC, dI) tC (w_Tr_ h_tr ad_tr tC tr ++ (w_Ln_ h_ln ad_ln tC ln ++ w_Sh_ (ad_ln 100) ad_sh tC sh_nT sh)) sz [.ref h_tr, .ref h_ln]) (wrQ (dC, dI) (w_Tr_ h_tr ad_tr tC tr ++ (w_Ln_ h_ln ad_ln tC ln ++ w_Sh_ (ad_ln 100) ad_sh tC sh_nT sh)) sz (fun r w => r = none ∧ w = (w_Tr_ h_tr ad_tr tC R.2 ++ (w_Ln_ h_ln ad_ln tC ln ++ w_Sh_ (ad_ln 100) ad_sh tC sh_nT sh)))) 0 0 (va_A (w_Tr_ h_tr ad_tr tC tr ++ (w_Ln_ h_ln ad_ln tC ln ++ w_Sh_ (ad_ln 100) ad_sh tC sh_nT sh)) sz) := by
  refine Met.ofW (cc := c_Tr_follow) (maxL := 8) (ret := none) (by decide) rfl ?_
  intro p e s m args below meth c s₁ B hml hv
  obtain ⟨hav, hsz, hP, hK, hD0⟩ := hv
  have hx := B.exec
  have hb := B.bytes
  have hr := B.returns
  have hts : ∀ w ∈ gw, w.before args s = true := fun w h => atoms_spec (ws := w_Tr_follow) B.pre w (List.mem_cons_of_mem _ h)
  have hown : s.vm.findClass RX7 = some m.cls := findClass_of_methodNamed B.named
  have hlocks := B.notSynchronized
  subst hsz
  have hD := hD0.self (sz := s.heap.size)
  obtain ⟨A, hAe⟩ : ∃ z, z = va_A (w_Tr_ h_tr ad_tr tC tr ++ (w_Ln_ h_ln ad_ln tC ln ++ w_Sh_ (ad_ln 100) ad_sh tC sh_nT sh)) s.heap.size := ⟨_, rfl⟩
  rw [← hAe] at hD
  have hA : ∀ q : Nat, s.heap.size ≤ q → A q := fun q h => by rw [hAe]; exact Or.inr h
  have hS : va_S A s.heap s.heap [] := va_S.rf
  refine q_w (R := rm_Tr_follow) (fun Q hQ => ?_)
  refine en_w (av := [.ref h_tr, .ref h_ln]) hav (Nat.le_of_ble_eq_true rfl) (fun ls hl => ?_)
  have hl : lv_has ls 8 [(0, .ref h_tr), (1, .ref h_ln)] := hl
  unfold f_Tr_follow at hf
  refine lv_aload_n hx hb d_Tr_follow_0 rfl (lv_at hl 0 rfl) ?_
  refine lv_iconst (v := 0) hx hb d_Tr_follow_1 (by decide) ?_
  refine va_put (D := (dC, dI)) (ci := 7) (v := .int 0) (ty := .int) (C := RX7) (T := TX7) (N := 8) hx hb hts in_X7 tyX7 tyX7_ok nmX7 hown hK hP hD hS 0 (fs := [.ref (ad_tr 0), .ref (ad_tr 1), .ref (ad_tr 2), .ref (ad_tr 3), .ref (ad_tr 4), .int (tr.1 0), .int (tr.1 1), .int (tr.1 2)]) rfl rfl 5 (by decide) (hts _ kF_7_28) (fun _ h9 => h9) rfl (by decide +kernel) (rfl) (rfl) (Nat.le_of_ble_eq_true rfl) d_Tr_follow_2 (fun H locs hP hD hS => ?_)
  rw [sl_Tr_0, wu_Tr_s0] at hP hD
  obtain ⟨tr1, htr1, hf⟩ := op_b hf
  have hP : va_P (dC, dI) vwCl (w_Tr_ h_tr ad_tr tC tr1 ++ (w_Ln_ h_ln ad_ln tC ln ++ w_Sh_ (ad_ln 100) ad_sh tC sh_nT sh)) H := by rw [← Option.some.inj htr1]; exact hP
  have hD : va_D A (w_Tr_ h_tr ad_tr tC tr1 ++ (w_Ln_ h_ln ad_ln tC ln ++ w_Sh_ (ad_ln 100) ad_sh tC sh_nT sh)) := by rw [← Option.some.inj htr1]; exact hD
  refine lv_aload_n hx hb d_Tr_follow_5 rfl (lv_at hl 0 rfl) ?_
  refine lv_aload_n hx hb d_Tr_follow_6 rfl (lv_at hl 1 rfl) ?_
  refine va_get (D := (dC, dI)) (ci := 2) (v := .int (ln.1 4)) (C := RX2) (T := TX2) (N := 9) hx hb hts in_X2 hown hK hP 6 rfl rfl 6 (by decide) (hts _ kF_7_32) (fun _ h9 => h9) rfl d_Tr_follow_7 ?_
  refine va_put (D := (dC, dI)) (ci := 7) (v := .int (ln.1 4)) (ty := .int) (C := RX7) (T := TX7) (N := 8) hx hb hts in_X7 tyX7 tyX7_ok nmX7 hown hK hP hD hS 0 (fs := [.ref (ad_tr 0), .ref (ad_tr 1), .ref (ad_tr 2), .ref (ad_tr 3), .ref (ad_tr 4), .int (tr1.1 0), .int (tr1.1 1), .int (tr1.1 2)]) rfl rfl 6 (by decide) (hts _ kF_7_37) (fun _ h9 => h9) rfl (by decide +kernel) (rfl) (rfl) (Nat.le_of_ble_eq_true rfl) d_Tr_follow_10 (fun H locs hP hD hS => ?_)
  rw [sl_Tr_0, wu_Tr_s1] at hP hD
  obtain ⟨tr2, htr2, hf⟩ := op_b hf
  have hP : va_P (dC, dI) vwCl (w_Tr_ h_tr ad_tr tC tr2 ++ (w_Ln_ h_ln ad_ln tC ln ++ w_Sh_ (ad_ln 100) ad_sh tC sh_nT sh)) H := by rw [← Option.some.inj htr2]; exact hP
  have hD : va_D A (w_Tr_ h_tr ad_tr tC tr2 ++ (w_Ln_ h_ln ad_ln tC ln ++ w_Sh_ (ad_ln 100) ad_sh tC sh_nT sh)) := by rw [← Option.some.inj htr2]; exact hD
  refine lv_aload_n hx hb d_Tr_follow_13 rfl (lv_at hl 0 rfl) ?_
  refine lv_aload_n hx hb d_Tr_follow_14 rfl (lv_at hl 1 rfl) ?_
  refine va_get (D := (dC, dI)) (ci := 2) (v := .int (ln.1 5)) (C := RX2) (T := TX2) (N := 9) hx hb hts in_X2 hown hK hP 6 rfl rfl 7 (by decide) (hts _ kF_7_38) (fun _ h9 => h9) rfl d_Tr_follow_15 ?_
  refine va_put (D := (dC, dI)) (ci := 7) (v := .int (ln.1 5)) (ty := .int) (C := RX7) (T := TX7) (N := 8) hx hb hts in_X7 tyX7 tyX7_ok nmX7 hown hK hP hD hS 0 (fs := [.ref (ad_tr 0), .ref (ad_tr 1), .ref (ad_tr 2), .ref (ad_tr 3), .ref (ad_tr 4), .int (tr2.1 0), .int (tr2.1 1), .int (tr2.1 2)]) rfl rfl 7 (by decide) (hts _ kF_7_41) (fun _ h9 => h9) rfl (by decide +kernel) (rfl) (rfl) (Nat.le_of_ble_eq_true rfl) d_Tr_follow_18 (fun H locs hP hD hS => ?_)
  rw [sl_Tr_0, wu_Tr_s2] at hP hD
  obtain ⟨tr3, htr3, hf⟩ := op_b hf
  have hP : va_P (dC, dI) vwCl (w_Tr_ h_tr ad_tr tC tr3 ++ (w_Ln_ h_ln ad_ln tC ln ++ w_Sh_ (ad_ln 100) ad_sh tC sh_nT sh)) H := by rw [← Option.some.inj htr3]; exact hP
  have hD : va_D A (w_Tr_ h_tr ad_tr tC tr3 ++ (w_Ln_ h_ln ad_ln tC ln ++ w_Sh_ (ad_ln 100) ad_sh tC sh_nT sh)) := by rw [← Option.some.inj htr3]; exact hD
  refine lv_iconst (v := 1) hx hb d_Tr_follow_21 (by decide) ?_
  refine lv_istore_n (lv' := [(2, .int 1), (0, .ref h_tr), (1, .ref h_ln)]) hx hb d_Tr_follow_22 rfl hl (by decide) rfl (fun ls hl => ?_)
  refine lv_iconst (v := 0) hx hb d_Tr_follow_23 (by decide) ?_
  refine lv_istore_n (lv' := [(3, .int 0), (2, .int 1), (0, .ref h_tr), (1, .ref h_ln)]) hx hb d_Tr_follow_24 rfl hl (by decide) rfl (fun ls hl => ?_)
  refine lv_iconst (v := 0) hx hb d_Tr_follow_25 (by decide) ?_
  refine lv_istore (lv' := [(4, .int 0), (3, .int 0), (2, .int 1), (0, .ref h_tr), (1, .ref h_ln)]) hx hb d_Tr_follow_26 hl (by decide) rfl (fun ls hl => ?_)
  have lp_28 : ∀ (n : Nat) (x2 : Int32) (x3 : Int32) (x4 : Int32) (tr : MS) (Rl : Int32 × Int32 × Int32 × MS), l_Tr_follow_28 n x2 x3 x4 sh_nT tr ln sh = some Rl → ∀ (H : Heap) (locs : List Loc), va_P (dC, dI) vwCl (w_Tr_ h_tr ad_tr tC tr ++ (w_Ln_ h_ln ad_ln tC ln ++ w_Sh_ (ad_ln 100) ad_sh tC sh_nT sh)) H → va_D A (w_Tr_ h_tr ad_tr tC tr ++ (w_Ln_ h_ln ad_ln tC ln ++ w_Sh_ (ad_ln 100) ad_sh tC sh_nT sh)) → va_S A s.heap H locs → ∀ ls : Array Slot, lv_has ls 8 [(4, .int x4), (3, .int x3), (2, .int x2), (0, .ref h_tr), (1, .ref h_ln)] → (∀ (H : Heap) (locs : List Loc), va_P (dC, dI) vwCl (w_Tr_ h_tr ad_tr tC Rl.2.2.2 ++ (w_Ln_ h_ln ad_ln tC ln ++ w_Sh_ (ad_ln 100) ad_sh tC sh_nT sh)) H → va_D A (w_Tr_ h_tr ad_tr tC Rl.2.2.2 ++ (w_Ln_ h_ln ad_ln tC ln ++ w_Sh_ (ad_ln 100) ad_sh tC sh_nT sh)) → va_S A s.heap H locs → ∀ ls : Array Slot, lv_has ls 8 [(4, .int Rl.2.2.1), (3, .int Rl.2.1), (2, .int Rl.1), (0, .ref h_tr), (1, .ref h_ln)] → W p l e rm_Tr_follow s m args below meth c H locs 0 0 Q (F0 m 172 ls [])) → W p l e rm_Tr_follow s m args below meth c H locs 0 0 Q (F0 m 28 ls []) := by
    intro n
    induction n with
    | zero => intro x2 x3 x4 tr Rl hf; cases hf
    | succ n ih_28 =>
      intro x2 x3 x4 tr Rl hf H locs hP hD hS ls hl Kk
      rw [l_Tr_follow_28] at hf
      refine lv_iload hx hb d_Tr_follow_28 (lv_at hl 0 rfl) ?_
      refine lv_aload_n hx hb d_Tr_follow_30 rfl (lv_at hl 4 rfl) ?_
      refine va_get (D := (dC, dI)) (ci := 2) (v := .ref (ad_ln 100)) (C := RX2) (T := TX2) (N := 9) hx hb hts in_X2 hown hK hP 6 rfl rfl 1 (by decide) (hts _ kF_7_42) (fun _ h9 => h9) rfl d_Tr_follow_31 ?_
      refine va_get (D := (dC, dI)) (ci := 4) (v := .int (sh.1 0)) (C := RX4) (T := TX4) (N := 3) hx hb hts in_X4 hown hK hP 8 rfl rfl 1 (by decide) (hts _ kF_7_46) (fun _ h9 => h9) rfl d_Tr_follow_34 ?_
      refine lv_icmp_ge (tgt := 172) hx hb d_Tr_follow_37 (by decide) (fun c5 => ?_) (fun c5 => ?_)
      · have hf := op_t hf c5
        obtain rfl := Option.some.inj hf
        exact Kk _ _ hP hD hS _ (lv_sub hl [0, 1, 2, 3, 4] rfl)
      · have hf := op_e hf c5
        refine lv_iload_n hx hb d_Tr_follow_40 rfl (lv_at hl 2 rfl) ?_
        refine lv_istore (lv' := [(5, .int x2), (4, .int x4), (3, .int x3), (2, .int x2), (0, .ref h_tr), (1, .ref h_ln)]) hx hb d_Tr_follow_41 hl (by decide) rfl (fun ls hl => ?_)
        refine lv_iload_n hx hb d_Tr_follow_43 rfl (lv_at hl 2 rfl) ?_
        refine lv_istore (lv' := [(6, .int x3), (5, .int x2), (4, .int x4), (3, .int x3), (2, .int x2), (0, .ref h_tr), (1, .ref h_ln)]) hx hb d_Tr_follow_44 hl (by decide) rfl (fun ls hl => ?_)
        refine lv_aload_n hx hb d_Tr_follow_46 rfl (lv_at hl 6 rfl) ?_
        refine va_get (D := (dC, dI)) (ci := 2) (v := .ref (ad_ln 100)) (C := RX2) (T := TX2) (N := 9) hx hb hts in_X2 hown hK hP 6 rfl rfl 1 (by decide) (hts _ kF_7_42) (fun _ h9 => h9) rfl d_Tr_follow_47 ?_
        refine lv_iload hx hb d_Tr_follow_50 (lv_at hl 2 rfl) ?_
        obtain ⟨q6, hq6, hf⟩ := op_b hf
        refine ro_go rfl (va_runV (As := [.int x4]) (rest := []) ⟨hx, hb, hml, hown, hts⟩ (m_Sh_bendBefore l dC dI tC (ad_ln 100) ad_sh sh_nT sh x4 q6 _ (hP.sub [8, 9] rfl) hq6) (cwV 1 hts (gd_V kM_7_51 kI_Sh_bendBefore kV_Sh_bendBefore kZ_4 kC_Sh_bendBefore) rfl rfl rfl (by decide +kernel) ⟨(Nat.le_of_ble_eq_true rfl), (Nat.le_of_ble_eq_true rfl)⟩) ⟨ro_blind, va_recv hK hP (ci := 4) (q0 := 8) rfl rfl, ro_pre hK⟩ rfl rfl hl.1 rfl (lv_room (Nat.le_of_ble_eq_true rfl)) d_Tr_follow_52 ⟨(Nat.le_of_ble_eq_true rfl), (Nat.le_of_ble_eq_true rfl)⟩) ?_
        refine W.eq (g2 := F0 m 55 ls [.int q6]) rfl ?_
        obtain ⟨q7, hq7, hf⟩ := op_b hf
        have J_55 : ∀ (H : Heap) (locs : List Loc), va_P (dC, dI) vwCl (w_Tr_ h_tr ad_tr tC q7.2.2 ++ (w_Ln_ h_ln ad_ln tC ln ++ w_Sh_ (ad_ln 100) ad_sh tC sh_nT sh)) H → va_D A (w_Tr_ h_tr ad_tr tC q7.2.2 ++ (w_Ln_ h_ln ad_ln tC ln ++ w_Sh_ (ad_ln 100) ad_sh tC sh_nT sh)) → va_S A s.heap H locs → ∀ ls : Array Slot, lv_has ls 8 [(3, .int q7.1), (2, .int q7.2.1), (6, .int x3), (5, .int x2), (4, .int x4), (0, .ref h_tr), (1, .ref h_ln)] → W p l e rm_Tr_follow s m args below meth c H locs 0 0 Q (F0 m 143 ls []) := by
          intro H locs hP hD hS ls hl
          refine lv_aload_n hx hb d_Tr_follow_143 rfl (lv_at hl 5 rfl) ?_
          refine lv_iload_n hx hb d_Tr_follow_144 rfl (lv_at hl 1 rfl) ?_
          refine lv_aload_n hx hb d_Tr_follow_145 rfl (lv_at hl 6 rfl) ?_
          refine va_get (D := (dC, dI)) (ci := 2) (v := .ref (ad_ln 0)) (C := RX2) (T := TX2) (N := 9) hx hb hts in_X2 hown hK hP 6 rfl rfl 4 (by decide) (hts _ kF_7_62) (fun _ h9 => h9) rfl d_Tr_follow_146 ?_
          refine lv_iload hx hb d_Tr_follow_149 (lv_at hl 4 rfl) ?_
          obtain ⟨hi14, hf⟩ := op_if hf
          refine va_iald (f := ln.2.1 0) hx hb hK hP 7 0 rfl rfl (ix_in hi14) d_Tr_follow_151 ?_
          refine lv_imul hx hb d_Tr_follow_152 ?_
          refine lv_iload_n hx hb d_Tr_follow_153 rfl (lv_at hl 0 rfl) ?_
          refine lv_aload_n hx hb d_Tr_follow_154 rfl (lv_at hl 6 rfl) ?_
          refine va_get (D := (dC, dI)) (ci := 2) (v := .ref (ad_ln 0)) (C := RX2) (T := TX2) (N := 9) hx hb hts in_X2 hown hK hP 6 rfl rfl 4 (by decide) (hts _ kF_7_62) (fun _ h9 => h9) rfl d_Tr_follow_155 ?_
          refine lv_iload hx hb d_Tr_follow_158 (lv_at hl 4 rfl) ?_
          obtain ⟨hi15, hf⟩ := op_if hf
          refine va_iald (f := ln.2.1 0) hx hb hK hP 7 0 rfl rfl (ix_in hi15) d_Tr_follow_160 ?_
          refine lv_imul hx hb d_Tr_follow_161 ?_
          refine lv_iconst (v := 1) hx hb d_Tr_follow_162 (by decide) ?_
          obtain ⟨q16, hq16, hf⟩ := op_b hf
          have hPc := hP.sub (ws' := (w_Tr_ h_tr ad_tr tC q7.2.2)) [0, 1, 2, 3, 4, 5] rfl
          have hDc := hD.sub (ws' := (w_Tr_ h_tr ad_tr tC q7.2.2)) [0, 1, 2, 3, 4, 5] (by decide) rfl
          have hFc := va_free (wc := (w_Tr_ h_tr ad_tr tC q7.2.2)) hD hS hA [0, 1, 2, 3, 4, 5] rfl
          refine wr_go (va_runV (As := [.int (q7.2.1 * ((ln.2.1 0) x4.toNatClampNeg)), .int (q7.1 * ((ln.2.1 0) x4.toNatClampNeg)), .int 1]) (rest := []) ⟨hx, hb, hml, hown, hts⟩ (m_Tr_go l dC dI tC h_tr ad_tr q7.2.2 (q7.2.1 * ((ln.2.1 0) x4.toNatClampNeg)) (q7.1 * ((ln.2.1 0) x4.toNatClampNeg)) 1 q16 hq16 _) (cwV 3 hts (gd_V kM_7_58 kI_Tr_go kV_Tr_go kZ_7 kC_Tr_go) rfl rfl rfl (by decide +kernel) ⟨(Nat.le_of_ble_eq_true rfl), (Nat.le_of_ble_eq_true rfl)⟩) ⟨wr_blind, va_recv hK hP (ci := 7) (q0 := 0) rfl rfl, wr_pre hK hPc hDc⟩ rfl rfl hl.1 rfl (lv_room (Nat.le_of_ble_eq_true rfl)) d_Tr_follow_163 ⟨(Nat.le_of_ble_eq_true rfl), (Nat.le_of_ble_eq_true rfl)⟩) hS hFc (fun r w1 H1 locs hw hP1 hD1 hk1 hS => ?_)
          obtain ⟨rfl, rfl⟩ := hw
          obtain ⟨hP, hD⟩ := jn_S hP hD [0, 1, 2, 3, 4, 5] (wc := (w_Tr_ h_tr ad_tr tC q7.2.2)) rfl hk1 hP1 rfl
          clear hP1 hD1 hk1 hPc hDc hFc
          have hP : va_P (dC, dI) vwCl (w_Tr_ h_tr ad_tr tC q16.2 ++ (w_Ln_ h_ln ad_ln tC ln ++ w_Sh_ (ad_ln 100) ad_sh tC sh_nT sh)) _ := hP
          have hD : va_D A (w_Tr_ h_tr ad_tr tC q16.2 ++ (w_Ln_ h_ln ad_ln tC ln ++ w_Sh_ (ad_ln 100) ad_sh tC sh_nT sh)) := hD
          refine W.eq (g2 := F0 m 166 ls []) rfl ?_
          refine lv_iinc (v := x4 + 1) (lv' := [(4, .int (x4 + 1)), (3, .int q7.1), (2, .int q7.2.1), (6, .int x3), (5, .int x2), (0, .ref h_tr), (1, .ref h_ln)]) hx hb d_Tr_follow_166 hl (k := 4) rfl rfl (by decide) rfl (fun ls hl => ?_)
          refine lv_goto (tgt := 28) hx hb d_Tr_follow_169 (by decide) ?_
          exact ih_28 q7.2.1 q7.1 (x4 + 1) q16.2 Rl hf _ _ hP hD hS _ (lv_sub hl [0, 1, 2, 5, 6] rfl) Kk
        clear hf
        have hf := hq7
        clear hq7
        by_cases c17 : q6 = 76
        · refine lv_lookup (tgt := 88) (off := 33) hx hb d_Tr_follow_55 (by decide) (by rw [c17]; decide) (by decide) ?_
          have hf := op_t hf c17
          refine lv_iload hx hb d_Tr_follow_88 (lv_at hl 0 rfl) ?_
          refine lv_ineg hx hb d_Tr_follow_90 ?_
          obtain ⟨v8, hv8, hf⟩ := op_b hf
          refine rw_i (y := v8) (Option.some.inj hv8) ?_
          refine lv_istore_n (lv' := [(2, .int v8), (6, .int x3), (5, .int x2), (4, .int x4), (3, .int x3), (0, .ref h_tr), (1, .ref h_ln)]) hx hb d_Tr_follow_91 rfl hl (by decide) rfl (fun ls hl => ?_)
          refine lv_iload hx hb d_Tr_follow_92 (lv_at hl 2 rfl) ?_
          refine lv_istore_n (lv' := [(3, .int x2), (2, .int v8), (6, .int x3), (5, .int x2), (4, .int x4), (0, .ref h_tr), (1, .ref h_ln)]) hx hb d_Tr_follow_94 rfl hl (by decide) rfl (fun ls hl => ?_)
          refine lv_goto (tgt := 143) hx hb d_Tr_follow_95 (by decide) ?_
          obtain rfl := Option.some.inj hf
          exact J_55 _ _ hP hD hS _ (lv_sub hl [0, 1, 2, 3, 4, 5, 6] rfl)
        have hf := op_e hf c17
        by_cases c18 : q6 = 82
        · refine lv_lookup (tgt := 98) (off := 43) hx hb d_Tr_follow_55 (by decide) (by rw [c18]; decide) (by decide) ?_
          have hf := op_t hf c18
          refine lv_iload hx hb d_Tr_follow_98 (lv_at hl 0 rfl) ?_
          refine lv_istore_n (lv' := [(2, .int x3), (6, .int x3), (5, .int x2), (4, .int x4), (3, .int x3), (0, .ref h_tr), (1, .ref h_ln)]) hx hb d_Tr_follow_100 rfl hl (by decide) rfl (fun ls hl => ?_)
          refine lv_iload hx hb d_Tr_follow_101 (lv_at hl 2 rfl) ?_
          refine lv_ineg hx hb d_Tr_follow_103 ?_
          obtain ⟨v9, hv9, hf⟩ := op_b hf
          refine rw_i (y := v9) (Option.some.inj hv9) ?_
          refine lv_istore_n (lv' := [(3, .int v9), (2, .int x3), (6, .int x3), (5, .int x2), (4, .int x4), (0, .ref h_tr), (1, .ref h_ln)]) hx hb d_Tr_follow_104 rfl hl (by decide) rfl (fun ls hl => ?_)
          refine lv_goto (tgt := 143) hx hb d_Tr_follow_105 (by decide) ?_
          obtain rfl := Option.some.inj hf
          exact J_55 _ _ hP hD hS _ (lv_sub hl [0, 1, 2, 3, 4, 5, 6] rfl)
        have hf := op_e hf c18
        by_cases c19 : q6 = 85
        · refine lv_lookup (tgt := 108) (off := 53) hx hb d_Tr_follow_55 (by decide) (by rw [c19]; decide) (by decide) ?_
          have hf := op_t hf c19
          refine lv_iconst (v := 3) hx hb d_Tr_follow_108 (by decide) ?_
          refine lv_aload_n hx hb d_Tr_follow_109 rfl (lv_at hl 6 rfl) ?_
          refine va_get (D := (dC, dI)) (ci := 2) (v := .int (ln.1 1)) (C := RX2) (T := TX2) (N := 9) hx hb hts in_X2 hown hK hP 6 rfl rfl 2 (by decide) (hts _ kF_7_55) (fun _ h9 => h9) rfl d_Tr_follow_110 ?_
          refine lv_imul hx hb d_Tr_follow_113 ?_
          obtain ⟨v10, hv10, hf⟩ := op_b hf
          refine rw_i (y := v10) (Option.some.inj hv10) ?_
          refine lv_istore (lv' := [(7, .int v10), (6, .int x3), (5, .int x2), (4, .int x4), (3, .int x3), (2, .int x2), (0, .ref h_tr), (1, .ref h_ln)]) hx hb d_Tr_follow_114 hl (by decide) rfl (fun ls hl => ?_)
          refine lv_aload_n hx hb d_Tr_follow_116 rfl (lv_at hl 6 rfl) ?_
          refine lv_iload hx hb d_Tr_follow_117 (lv_at hl 1 rfl) ?_
          refine lv_ineg hx hb d_Tr_follow_119 ?_
          refine lv_iload hx hb d_Tr_follow_120 (lv_at hl 0 rfl) ?_
          refine lv_imul hx hb d_Tr_follow_122 ?_
          refine lv_iload hx hb d_Tr_follow_123 (lv_at hl 2 rfl) ?_
          refine lv_iload hx hb d_Tr_follow_125 (lv_at hl 0 rfl) ?_
          refine lv_imul hx hb d_Tr_follow_127 ?_
          refine lv_iconst (v := 0) hx hb d_Tr_follow_128 (by decide) ?_
          obtain ⟨q11, hq11, hf⟩ := op_b hf
          have hPc := hP.sub (ws' := (w_Tr_ h_tr ad_tr tC tr)) [0, 1, 2, 3, 4, 5] rfl
          have hDc := hD.sub (ws' := (w_Tr_ h_tr ad_tr tC tr)) [0, 1, 2, 3, 4, 5] (by decide) rfl
          have hFc := va_free (wc := (w_Tr_ h_tr ad_tr tC tr)) hD hS hA [0, 1, 2, 3, 4, 5] rfl
          refine wr_go (va_runV (As := [.int ((-x3) * v10), .int (x2 * v10), .int 0]) (rest := []) ⟨hx, hb, hml, hown, hts⟩ (m_Tr_go l dC dI tC h_tr ad_tr tr ((-x3) * v10) (x2 * v10) 0 q11 hq11 _) (cwV 3 hts (gd_V kM_7_58 kI_Tr_go kV_Tr_go kZ_7 kC_Tr_go) rfl rfl rfl (by decide +kernel) ⟨(Nat.le_of_ble_eq_true rfl), (Nat.le_of_ble_eq_true rfl)⟩) ⟨wr_blind, va_recv hK hP (ci := 7) (q0 := 0) rfl rfl, wr_pre hK hPc hDc⟩ rfl rfl hl.1 rfl (lv_room (Nat.le_of_ble_eq_true rfl)) d_Tr_follow_129 ⟨(Nat.le_of_ble_eq_true rfl), (Nat.le_of_ble_eq_true rfl)⟩) hS hFc (fun r w1 H1 locs hw hP1 hD1 hk1 hS => ?_)
          obtain ⟨rfl, rfl⟩ := hw
          obtain ⟨hP, hD⟩ := jn_S hP hD [0, 1, 2, 3, 4, 5] (wc := (w_Tr_ h_tr ad_tr tC tr)) rfl hk1 hP1 rfl
          clear hP1 hD1 hk1 hPc hDc hFc
          have hP : va_P (dC, dI) vwCl (w_Tr_ h_tr ad_tr tC q11.2 ++ (w_Ln_ h_ln ad_ln tC ln ++ w_Sh_ (ad_ln 100) ad_sh tC sh_nT sh)) _ := hP
          have hD : va_D A (w_Tr_ h_tr ad_tr tC q11.2 ++ (w_Ln_ h_ln ad_ln tC ln ++ w_Sh_ (ad_ln 100) ad_sh tC sh_nT sh)) := hD
          refine W.eq (g2 := F0 m 132 ls []) rfl ?_
          refine lv_iload hx hb d_Tr_follow_132 (lv_at hl 2 rfl) ?_
          refine lv_ineg hx hb d_Tr_follow_134 ?_
          obtain ⟨v12, hv12, hf⟩ := op_b hf
          refine rw_i (y := v12) (Option.some.inj hv12) ?_
          refine lv_istore_n (lv' := [(2, .int v12), (7, .int v10), (6, .int x3), (5, .int x2), (4, .int x4), (3, .int x3), (0, .ref h_tr), (1, .ref h_ln)]) hx hb d_Tr_follow_135 rfl hl (by decide) rfl (fun ls hl => ?_)
          refine lv_iload hx hb d_Tr_follow_136 (lv_at hl 2 rfl) ?_
          refine lv_ineg hx hb d_Tr_follow_138 ?_
          obtain ⟨v13, hv13, hf⟩ := op_b hf
          refine rw_i (y := v13) (Option.some.inj hv13) ?_
          refine lv_istore_n (lv' := [(3, .int v13), (2, .int v12), (7, .int v10), (6, .int x3), (5, .int x2), (4, .int x4), (0, .ref h_tr), (1, .ref h_ln)]) hx hb d_Tr_follow_139 rfl hl (by decide) rfl (fun ls hl => ?_)
          refine lv_goto (tgt := 143) hx hb d_Tr_follow_140 (by decide) ?_
          obtain rfl := Option.some.inj hf
          exact J_55 _ _ hP hD hS _ (lv_sub hl [0, 1, 3, 4, 5, 6, 7] rfl)
        have hf := op_e hf c19
        refine lv_lookup (tgt := 143) (off := 88) hx hb d_Tr_follow_55 (by decide) (by show Op.lookupswitch.offset [(76, 33), (82, 43), (85, 53)] 88 (q6).toInt = _; rw [lv_osw c17 (by decide), lv_osw c18 (by decide), lv_osw c19 (by decide)]; rfl) (by decide) ?_
        obtain rfl := Option.some.inj hf
        exact J_55 _ _ hP hD hS _ (lv_sub hl [3, 4, 0, 1, 2, 5, 6] rfl)
  obtain ⟨q4, hq4, hf⟩ := op_b hf
  refine lp_28 fu 1 0 0 tr3 q4 hq4 _ _ hP hD hS _ (lv_sub hl [0, 1, 2, 3, 4] rfl) ?_
  intro H locs hP hD hS ls hl
  obtain rfl := Option.some.inj hf
  subst hQ
  subst hAe
  exact W.vret hx hb hr (fun t ht hW => ⟨⟨_, _, rfl, ⟨rfl, rfl⟩, by rw [ht]; exact hP, hD⟩, hS.F ht⟩) hS.2.2 d_Tr_follow_172
def l_Lw_searchRows_22 (rc : MS → Int32 → Int32 → Int32 → Option (Unit × MS)) : Nat → Int32 → Int32 → Int32 → Int32 → Int32 → Int32 → MS → Option (Int32 × MS)
  | 0, _, _, _, _, _, _, _ => none
  | n + 1, x1, x2, x3, x4, x5, x6, lw => (if x6 < x4 then some (x6, lw) else if ix x6 256 then ((if x5 < ((lw.2.1 0) x6.toNatClampNeg) then some (lw) else if ix (x2 - x6) 256 then (if (lw.1 1) ≤ (x3 + ((lw.2.1 1) (x2 - x6).toNatClampNeg)) then some (lw) else if ix x1 8 then (some (sA lw 5 (upd (lw.2.1 5) x1.toNatClampNeg x6))).bind fun lw13 => (rc lw13 (x1 + 1) (x2 - x6) x3).bind fun q14 => some (q14.2) else none) else none) : Option (MS)).bind fun q9 => (some ((x6 - 1) &&& x2) : Option Int32).bind fun v15 => l_Lw_searchRows_22 rc n x1 x2 x3 x4 x5 v15 q9 else none)
def f_Lw_searchRows (rc : MS → Int32 → Int32 → Int32 → Option (Unit × MS)) (lw : MS) (p1 : Int32) (p2 : Int32) (p3 : Int32) : Option (Unit × MS) := (f_Lw_highestBit p2).bind fun q1 => if ix p1 8 then if ix ((lw.2.1 4) p1.toNatClampNeg) 3 then (some ((lw.2.1 2) ((lw.2.1 4) p1.toNatClampNeg).toNatClampNeg) : Option Int32).bind fun v4 => (l_Lw_searchRows_22 rc fu p1 p2 p3 q1 v4 p2 lw).bind fun q5 => some ((), q5.2) else none else none
def rm_Lw_searchRows (rr : Room) : Room := { frames := rr.frames + 5, cells := 0, slots := 0, locals := rr.locals + 300 }
set_option maxHeartbeats 4000000 in
set_option maxRecDepth 100000 in
theorem m_Lw_searchRows (l : Launch) (dC : Nat → ClassId) (dI : Nat → Nat → Nat) (tC : Nat → ClassId) (rc : MS → Int32 → Int32 → Int32 → Option (Unit × MS)) (rr : Room) (hrc : ∀ (h_lw : Nat) (ad_lw : Nat → Nat) (lw : MS) (p1 p2 p3 : Int32) (R : Unit × MS), rc lw p1 p2 p3 = some R → ∀ sz : Nat, Met l y_Lw_search w_Lw_search rr (wrP (dC, dI) tC (w_Lw_ h_lw ad_lw tC lw) sz [.ref h_lw, .int p1, .int p2, .int p3]) (wrQ (dC, dI) (w_Lw_ h_lw ad_lw tC lw) sz (fun r w => r = none ∧ w = w_Lw_ h_lw ad_lw tC R.2)) 0 0 (va_A (w_Lw_ h_lw ad_lw tC lw) sz)) (hz : rr.cells = 0 ∧ rr.slots = 0) (h_lw : Nat) (ad_lw : Nat → Nat) (lw : MS) (p1 : Int32) (p2 : Int32) (p3 : Int32) (R : Unit × MS) (hf : f_Lw_searchRows rc lw p1 p2 p3 = some R) (sz : Nat) : Met l y_Lw_searchRows w_Lw_searchRows (rm_Lw_searchRows rr) (wrP (dC, dI) tC (w_Lw_ h_lw ad_lw tC lw) sz [.ref h_lw, .int p1, .int p2, .int p3]) (wrQ (dC, dI) (w_Lw_ h_lw ad_lw tC lw) sz (fun r w => r = none ∧ w = (w_Lw_ h_lw ad_lw tC R.2))) 0 0 (va_A (w_Lw_ h_lw ad_lw tC lw) sz) := by
  refine Met.ofW (cc := c_Lw_searchRows) (maxL := 7) (ret := none) (by decide) rfl ?_
  intro p e s m args below meth c s₁ B hml hv
  obtain ⟨hav, hsz, hP, hK, hD0⟩ := hv
  have hx := B.exec
  have hb := B.bytes
  have hr := B.returns
  have hts : ∀ w ∈ gw, w.before args s = true := fun w h => atoms_spec (ws := w_Lw_searchRows) B.pre w (List.mem_cons_of_mem _ h)
  have hown : s.vm.findClass RX1 = some m.cls := findClass_of_methodNamed B.named
  have hlocks := B.notSynchronized
  subst hsz
  have hD := hD0.self (sz := s.heap.size)
  obtain ⟨A, hAe⟩ : ∃ z, z = va_A (w_Lw_ h_lw ad_lw tC lw) s.heap.size := ⟨_, rfl⟩
  rw [← hAe] at hD
  have hA : ∀ q : Nat, s.heap.size ≤ q → A q := fun q h => by rw [hAe]; exact Or.inr h
  have hS : va_S A s.heap s.heap [] := va_S.rf
  refine q_w (R := (rm_Lw_searchRows rr)) (fun Q hQ => ?_)
  refine en_w (av := [.ref h_lw, .int p1, .int p2, .int p3]) hav (Nat.le_of_ble_eq_true rfl) (fun ls hl => ?_)
  have hl : lv_has ls 7 [(0, .ref h_lw), (1, .int p1), (2, .int p2), (3, .int p3)] := hl
  unfold f_Lw_searchRows at hf
  refine lv_iload_n hx hb d_Lw_searchRows_0 rfl (lv_at hl 2 rfl) ?_
  obtain ⟨q1, hq1, hf⟩ := op_b hf
  refine ro_go rfl (va_runS (As := [.int p2]) (rest := []) ⟨hx, hb, hml, hown, hts⟩ (m_Lw_highestBit l dC dI tC p2 q1 _  hq1) (cwS 1 hts (gd_S kM_1_84 kS_Lw_highestBit kZ_1 kC_Lw_highestBit) rfl rfl rfl (by decide +kernel) ⟨by show 0 + 1 ≤ rr.frames + 5; omega, by show 8 + (2 + 11) + (0) ≤ rr.locals + 300; omega⟩) ⟨ro_blind, ro_pre hK⟩ rfl rfl hl.1 rfl (lv_room (Nat.le_of_ble_eq_true rfl)) d_Lw_searchRows_1 ⟨(Nat.le_of_ble_eq_true rfl), (Nat.le_of_ble_eq_true rfl)⟩) ?_
  refine W.eq (g2 := F0 m 4 ls [.int q1]) rfl ?_
  refine lv_istore (lv' := [(4, .int q1), (0, .ref h_lw), (1, .int p1), (2, .int p2), (3, .int p3)]) hx hb d_Lw_searchRows_4 hl (by decide) rfl (fun ls hl => ?_)
  refine lv_aload_n hx hb d_Lw_searchRows_6 rfl (lv_at hl 1 rfl) ?_
  refine va_get (D := (dC, dI)) (ci := 1) (v := .ref (ad_lw 2)) (C := RX1) (T := TX1) (N := 11) hx hb hts in_X1 hown hK hP 0 rfl rfl 2 (by decide) (hts _ kF_1_18) (fun _ h9 => h9) rfl d_Lw_searchRows_7 ?_
  refine lv_aload_n hx hb d_Lw_searchRows_10 rfl (lv_at hl 1 rfl) ?_
  refine va_get (D := (dC, dI)) (ci := 1) (v := .ref (ad_lw 4)) (C := RX1) (T := TX1) (N := 11) hx hb hts in_X1 hown hK hP 0 rfl rfl 4 (by decide) (hts _ kF_1_24) (fun _ h9 => h9) rfl d_Lw_searchRows_11 ?_
  refine lv_iload_n hx hb d_Lw_searchRows_14 rfl (lv_at hl 2 rfl) ?_
  obtain ⟨hi2, hf⟩ := op_if hf
  refine va_iald (f := lw.2.1 4) hx hb hK hP 5 0 rfl rfl (ix_in hi2) d_Lw_searchRows_15 ?_
  obtain ⟨hi3, hf⟩ := op_if hf
  refine va_iald (f := lw.2.1 2) hx hb hK hP 3 0 rfl rfl (ix_in hi3) d_Lw_searchRows_16 ?_
  obtain ⟨v4, hv4, hf⟩ := op_b hf
  refine rw_i (y := v4) (Option.some.inj hv4) ?_
  refine lv_istore (lv' := [(5, .int v4), (4, .int q1), (0, .ref h_lw), (1, .int p1), (2, .int p2), (3, .int p3)]) hx hb d_Lw_searchRows_17 hl (by decide) rfl (fun ls hl => ?_)
  refine lv_iload_n hx hb d_Lw_searchRows_19 rfl (lv_at hl 4 rfl) ?_
  refine lv_istore (lv' := [(6, .int p2), (5, .int v4), (4, .int q1), (0, .ref h_lw), (1, .int p1), (2, .int p2), (3, .int p3)]) hx hb d_Lw_searchRows_20 hl (by decide) rfl (fun ls hl => ?_)
  have lp_22 : ∀ (n : Nat) (x1 : Int32) (x2 : Int32) (x3 : Int32) (x4 : Int32) (x5 : Int32) (x6 : Int32) (lw : MS) (Rl : Int32 × MS), l_Lw_searchRows_22 rc n x1 x2 x3 x4 x5 x6 lw = some Rl → ∀ (H : Heap) (locs : List Loc), va_P (dC, dI) vwCl (w_Lw_ h_lw ad_lw tC lw) H → va_D A (w_Lw_ h_lw ad_lw tC lw) → va_S A s.heap H locs → ∀ ls : Array Slot, lv_has ls 7 [(6, .int x6), (5, .int x5), (4, .int x4), (0, .ref h_lw), (1, .int x1), (2, .int x2), (3, .int x3)] → (∀ (H : Heap) (locs : List Loc), va_P (dC, dI) vwCl (w_Lw_ h_lw ad_lw tC Rl.2) H → va_D A (w_Lw_ h_lw ad_lw tC Rl.2) → va_S A s.heap H locs → ∀ ls : Array Slot, lv_has ls 7 [(6, .int Rl.1), (5, .int x5), (4, .int x4), (0, .ref h_lw), (1, .int x1), (2, .int x2), (3, .int x3)] → W p l e (rm_Lw_searchRows rr) s m args below meth c H locs 0 0 Q (F0 m 90 ls [])) → W p l e (rm_Lw_searchRows rr) s m args below meth c H locs 0 0 Q (F0 m 22 ls []) := by
    intro n
    induction n with
    | zero => intro x1 x2 x3 x4 x5 x6 lw Rl hf; cases hf
    | succ n ih_22 =>
      intro x1 x2 x3 x4 x5 x6 lw Rl hf H locs hP hD hS ls hl Kk
      rw [l_Lw_searchRows_22] at hf
      refine lv_iload hx hb d_Lw_searchRows_22 (lv_at hl 0 rfl) ?_
      refine lv_iload hx hb d_Lw_searchRows_24 (lv_at hl 2 rfl) ?_
      refine lv_icmp_lt (tgt := 90) hx hb d_Lw_searchRows_26 (by decide) (fun c6 => ?_) (fun c6 => ?_)
      · have hf := op_t hf c6
        obtain rfl := Option.some.inj hf
        exact Kk _ _ hP hD hS _ (lv_sub hl [0, 1, 2, 3, 4, 5, 6] rfl)
      · have hf := op_e hf c6
        refine lv_aload_n hx hb d_Lw_searchRows_29 rfl (lv_at hl 3 rfl) ?_
        refine va_get (D := (dC, dI)) (ci := 1) (v := .ref (ad_lw 0)) (C := RX1) (T := TX1) (N := 11) hx hb hts in_X1 hown hK hP 0 rfl rfl 0 (by decide) (hts _ kF_1_11) (fun _ h9 => h9) rfl d_Lw_searchRows_30 ?_
        refine lv_iload hx hb d_Lw_searchRows_33 (lv_at hl 0 rfl) ?_
        obtain ⟨hi7, hf⟩ := op_if hf
        refine va_iald (f := lw.2.1 0) hx hb hK hP 1 0 rfl rfl (ix_in hi7) d_Lw_searchRows_35 ?_
        refine lv_iload hx hb d_Lw_searchRows_36 (lv_at hl 1 rfl) ?_
        obtain ⟨q9, hq9, hf⟩ := op_b hf
        have J_38 : ∀ (H : Heap) (locs : List Loc), va_P (dC, dI) vwCl (w_Lw_ h_lw ad_lw tC q9) H → va_D A (w_Lw_ h_lw ad_lw tC q9) → va_S A s.heap H locs → ∀ ls : Array Slot, lv_has ls 7 [(6, .int x6), (5, .int x5), (4, .int x4), (0, .ref h_lw), (1, .int x1), (2, .int x2), (3, .int x3)] → W p l e (rm_Lw_searchRows rr) s m args below meth c H locs 0 0 Q (F0 m 79 ls []) := by
          intro H locs hP hD hS ls hl
          refine lv_iload hx hb d_Lw_searchRows_79 (lv_at hl 0 rfl) ?_
          refine lv_iconst (v := 1) hx hb d_Lw_searchRows_81 (by decide) ?_
          refine lv_isub hx hb d_Lw_searchRows_82 ?_
          refine lv_iload_n hx hb d_Lw_searchRows_83 rfl (lv_at hl 5 rfl) ?_
          refine lv_iand hx hb d_Lw_searchRows_84 ?_
          obtain ⟨v15, hv15, hf⟩ := op_b hf
          refine rw_i (y := v15) (Option.some.inj hv15) ?_
          refine lv_istore (lv' := [(6, .int v15), (5, .int x5), (4, .int x4), (0, .ref h_lw), (1, .int x1), (2, .int x2), (3, .int x3)]) hx hb d_Lw_searchRows_85 hl (by decide) rfl (fun ls hl => ?_)
          refine lv_goto (tgt := 22) hx hb d_Lw_searchRows_87 (by decide) ?_
          exact ih_22 x1 x2 x3 x4 x5 v15 q9 Rl hf _ _ hP hD hS _ (lv_sub hl [0, 1, 2, 3, 4, 5, 6] rfl) Kk
        clear hf
        have hf := hq9
        clear hq9
        refine lv_icmp_gt (tgt := 79) hx hb d_Lw_searchRows_38 (by decide) (fun c8 => ?_) (fun c8 => ?_)
        · have hf := op_t hf c8
          obtain rfl := Option.some.inj hf
          exact J_38 _ _ hP hD hS _ (lv_sub hl [0, 1, 2, 3, 4, 5, 6] rfl)
        · have hf := op_e hf c8
          refine lv_iload_n hx hb d_Lw_searchRows_41 rfl (lv_at hl 6 rfl) ?_
          refine lv_aload_n hx hb d_Lw_searchRows_42 rfl (lv_at hl 3 rfl) ?_
          refine va_get (D := (dC, dI)) (ci := 1) (v := .ref (ad_lw 1)) (C := RX1) (T := TX1) (N := 11) hx hb hts in_X1 hown hK hP 0 rfl rfl 1 (by decide) (hts _ kF_1_15) (fun _ h9 => h9) rfl d_Lw_searchRows_43 ?_
          refine lv_iload_n hx hb d_Lw_searchRows_46 rfl (lv_at hl 5 rfl) ?_
          refine lv_iload hx hb d_Lw_searchRows_47 (lv_at hl 0 rfl) ?_
          refine lv_isub hx hb d_Lw_searchRows_49 ?_
          obtain ⟨hi10, hf⟩ := op_if hf
          refine va_iald (f := lw.2.1 1) hx hb hK hP 2 0 rfl rfl (ix_in hi10) d_Lw_searchRows_50 ?_
          refine lv_iadd hx hb d_Lw_searchRows_51 ?_
          refine lv_aload_n hx hb d_Lw_searchRows_52 rfl (lv_at hl 3 rfl) ?_
          refine va_get (D := (dC, dI)) (ci := 1) (v := .int (lw.1 1)) (C := RX1) (T := TX1) (N := 11) hx hb hts in_X1 hown hK hP 0 rfl rfl 9 (by decide) (hts _ kF_1_67) (fun _ h9 => h9) rfl d_Lw_searchRows_53 ?_
          refine lv_icmp_ge (tgt := 79) hx hb d_Lw_searchRows_56 (by decide) (fun c11 => ?_) (fun c11 => ?_)
          · have hf := op_t hf c11
            obtain rfl := Option.some.inj hf
            exact J_38 _ _ hP hD hS _ (lv_sub hl [0, 1, 2, 3, 4, 5, 6] rfl)
          · have hf := op_e hf c11
            refine lv_aload_n hx hb d_Lw_searchRows_59 rfl (lv_at hl 3 rfl) ?_
            refine va_get (D := (dC, dI)) (ci := 1) (v := .ref (ad_lw 5)) (C := RX1) (T := TX1) (N := 11) hx hb hts in_X1 hown hK hP 0 rfl rfl 5 (by decide) (hts _ kF_1_27) (fun _ h9 => h9) rfl d_Lw_searchRows_60 ?_
            refine lv_iload_n hx hb d_Lw_searchRows_63 rfl (lv_at hl 4 rfl) ?_
            refine lv_iload hx hb d_Lw_searchRows_64 (lv_at hl 0 rfl) ?_
            obtain ⟨hi12, hf⟩ := op_if hf
            refine va_iast (f := lw.2.1 5) hx hb hK hP hD hS 6 0 rfl rfl (ix_in hi12) d_Lw_searchRows_66 (fun H locs hP hD hS => ?_)
            rw [wu_Lw_a5] at hP hD
            obtain ⟨lw13, hlw13, hf⟩ := op_b hf
            have hP : va_P (dC, dI) vwCl (w_Lw_ h_lw ad_lw tC lw13) H := by rw [← Option.some.inj hlw13]; exact hP
            have hD : va_D A (w_Lw_ h_lw ad_lw tC lw13) := by rw [← Option.some.inj hlw13]; exact hD
            refine lv_aload_n hx hb d_Lw_searchRows_67 rfl (lv_at hl 3 rfl) ?_
            refine lv_iload_n hx hb d_Lw_searchRows_68 rfl (lv_at hl 4 rfl) ?_
            refine lv_iconst (v := 1) hx hb d_Lw_searchRows_69 (by decide) ?_
            refine lv_iadd hx hb d_Lw_searchRows_70 ?_
            refine lv_iload_n hx hb d_Lw_searchRows_71 rfl (lv_at hl 5 rfl) ?_
            refine lv_iload hx hb d_Lw_searchRows_72 (lv_at hl 0 rfl) ?_
            refine lv_isub hx hb d_Lw_searchRows_74 ?_
            refine lv_iload_n hx hb d_Lw_searchRows_75 rfl (lv_at hl 6 rfl) ?_
            obtain ⟨q14, hq14, hf⟩ := op_b hf
            have hPc := hP
            have hDc := hD
            have hFc := va_free (wc := (w_Lw_ h_lw ad_lw tC lw13)) hD hS hA [0, 1, 2, 3, 4, 5, 6, 7, 8] rfl
            refine wr_go (va_runV (As := [.int (x1 + 1), .int (x2 - x6), .int x3]) (rest := []) ⟨hx, hb, hml, hown, hts⟩ (hrc h_lw ad_lw lw13 (x1 + 1) (x2 - x6) x3 q14 hq14 _) (cwV 3 hts (gd_V kM_1_73 kI_Lw_search kV_Lw_search kZ_1 kC_Lw_search) rfl hz.1 hz.2 (by decide +kernel) ⟨by show rr.frames + 1 ≤ rr.frames + 5; omega, by show 8 + (5 + 11) + (rr.locals) ≤ rr.locals + 300; omega⟩) ⟨wr_blind, va_recv hK hP (ci := 1) (q0 := 0) rfl rfl, wr_pre hK hPc hDc⟩ rfl rfl hl.1 rfl (lv_room (Nat.le_of_ble_eq_true rfl)) d_Lw_searchRows_76 ⟨(Nat.le_of_ble_eq_true rfl), (Nat.le_of_ble_eq_true rfl)⟩) hS hFc (fun r w1 H1 locs hw hP1 hD1 hk1 hS => ?_)
            obtain ⟨rfl, rfl⟩ := hw
            have hP := hP1
            have hD := hD1.weaken (fun _ q _ h => hFc q.1 h)
            clear hP1 hD1 hk1 hPc hDc hFc
            have hP : va_P (dC, dI) vwCl (w_Lw_ h_lw ad_lw tC q14.2) _ := hP
            have hD : va_D A (w_Lw_ h_lw ad_lw tC q14.2) := hD
            refine W.eq (g2 := F0 m 79 ls []) rfl ?_
            obtain rfl := Option.some.inj hf
            exact J_38 _ _ hP hD hS _ (lv_sub hl [0, 1, 2, 3, 4, 5, 6] rfl)
  obtain ⟨q5, hq5, hf⟩ := op_b hf
  refine lp_22 fu p1 p2 p3 q1 v4 p2 lw q5 hq5 _ _ hP hD hS _ (lv_sub hl [0, 1, 2, 3, 4, 5, 6] rfl) ?_
  intro H locs hP hD hS ls hl
  obtain rfl := Option.some.inj hf
  subst hQ
  subst hAe
  exact W.vret hx hb hr (fun t ht hW => ⟨⟨_, _, rfl, ⟨rfl, rfl⟩, by rw [ht]; exact hP, hD⟩, hS.F ht⟩) hS.2.2 d_Lw_searchRows_90
def l_Lw_search_21 (rc : MS → Int32 → Int32 → Int32 → Option (Unit × MS)) : Nat → Int32 → Int32 → Int32 → Int32 → MS → Option (Int32 × MS)
  | 0, _, _, _, _, _ => none
  | n + 1, x1, x2, x3, x4, lw => (if (lw.1 0) ≤ x4 then some (x4, lw) else if ix x4 3 then (if ((lw.2.1 3) x4.toNatClampNeg) ≤ 0 then l_Lw_search_21 rc n x1 x2 x3 (x4 + 1) lw else if ix x4 3 then if ix x4 3 then (some (sA lw 3 (upd (lw.2.1 3) x4.toNatClampNeg (((lw.2.1 3) x4.toNatClampNeg) - 1)))).bind fun lw10 => if ix x1 8 then (some (sA lw10 4 (upd (lw10.2.1 4) x1.toNatClampNeg x4))).bind fun lw12 => (f_Lw_costOfBar lw12 x4).bind fun q13 => (f_Lw_searchRows rc lw12 x1 x2 (x3 + q13)).bind fun q14 => if ix x4 3 then if ix x4 3 then (some (sA q14.2 3 (upd (q14.2.2.1 3) x4.toNatClampNeg (((q14.2.2.1 3) x4.toNatClampNeg) + 1)))).bind fun lw17 => l_Lw_search_21 rc n x1 x2 x3 (x4 + 1) lw17 else none else none else none else none else none) else none)
def f_Lw_searchB (rc : MS → Int32 → Int32 → Int32 → Option (Unit × MS)) (lw : MS) (p1 : Int32) (p2 : Int32) (p3 : Int32) : Option (Unit × MS) := (if p2 = 0 then (f_Lw_keep lw p1 p3).bind fun q2 => some ((), q2.2) else (if p1 < 8 then (l_Lw_search_21 rc fu p1 p2 p3 0 lw).bind fun q4 => some ((), q4.2) else some ((), lw)))
def rm_Lw_search (rr : Room) : Room := { frames := rr.frames + 10, cells := 0, slots := 0, locals := rr.locals + 600 }
set_option maxHeartbeats 4000000 in
set_option maxRecDepth 100000 in
theorem m_Lw_searchB (l : Launch) (dC : Nat → ClassId) (dI : Nat → Nat → Nat) (tC : Nat → ClassId) (rc : MS → Int32 → Int32 → Int32 → Option (Unit × MS)) (rr : Room) (hrc : ∀ (h_lw : Nat) (ad_lw : Nat → Nat) (lw : MS) (p1 p2 p3 : Int32) (R : Unit × MS), rc lw p1 p2 p3 = some R → ∀ sz : Nat, Met l y_Lw_search w_Lw_search rr (wrP (dC, dI) tC (w_Lw_ h_lw ad_lw tC lw) sz [.ref h_lw, .int p1, .int p2, .int p3]) (wrQ (dC, dI) (w_Lw_ h_lw ad_lw tC lw) sz (fun r w => r = none ∧ w = w_Lw_ h_lw ad_lw tC R.2)) 0 0 (va_A (w_Lw_ h_lw ad_lw tC lw) sz)) (hz : rr.cells = 0 ∧ rr.slots = 0) (h_lw : Nat) (ad_lw : Nat → Nat) (lw : MS) (p1 : Int32) (p2 : Int32) (p3 : Int32) (R : Unit × MS) (hf : f_Lw_searchB rc lw p1 p2 p3 = some R) (sz : Nat) : Met l y_Lw_search w_Lw_search (rm_Lw_search rr) (wrP (dC, dI) tC (w_Lw_ h_lw ad_lw tC lw) sz [.ref h_lw, .int p1, .int p2, .int p3]) (wrQ (dC, dI) (w_Lw_ h_lw ad_lw tC lw) sz (fun r w => r = none ∧ w = (w_Lw_ h_lw ad_lw tC R.2))) 0 0 (va_A (w_Lw_ h_lw ad_lw tC lw) sz) := by
  refine Met.ofW (cc := c_Lw_search) (maxL := 5) (ret := none) (by decide) rfl ?_
  intro p e s m args below meth c s₁ B hml hv
  obtain ⟨hav, hsz, hP, hK, hD0⟩ := hv
  have hx := B.exec
  have hb := B.bytes
  have hr := B.returns
  have hts : ∀ w ∈ gw, w.before args s = true := fun w h => atoms_spec (ws := w_Lw_search) B.pre w (List.mem_cons_of_mem _ h)
  have hown : s.vm.findClass RX1 = some m.cls := findClass_of_methodNamed B.named
  have hlocks := B.notSynchronized
  subst hsz
  have hD := hD0.self (sz := s.heap.size)
  obtain ⟨A, hAe⟩ : ∃ z, z = va_A (w_Lw_ h_lw ad_lw tC lw) s.heap.size := ⟨_, rfl⟩
  rw [← hAe] at hD
  have hA : ∀ q : Nat, s.heap.size ≤ q → A q := fun q h => by rw [hAe]; exact Or.inr h
  have hS : va_S A s.heap s.heap [] := va_S.rf
  refine q_w (R := (rm_Lw_search rr)) (fun Q hQ => ?_)
  refine en_w (av := [.ref h_lw, .int p1, .int p2, .int p3]) hav (Nat.le_of_ble_eq_true rfl) (fun ls hl => ?_)
  have hl : lv_has ls 5 [(0, .ref h_lw), (1, .int p1), (2, .int p2), (3, .int p3)] := hl
  unfold f_Lw_searchB at hf
  refine lv_iload_n hx hb d_Lw_search_0 rfl (lv_at hl 2 rfl) ?_
  refine lv_if_ne (tgt := 11) hx hb d_Lw_search_1 (by decide) (fun c1 => ?_) (fun c1 => ?_)
  · have hf := op_e hf c1
    refine lv_iload_n hx hb d_Lw_search_11 rfl (lv_at hl 1 rfl) ?_
    refine lv_bipush (v := 8) hx hb d_Lw_search_12 (by decide) ?_
    refine lv_icmp_lt (tgt := 18) hx hb d_Lw_search_14 (by decide) (fun c3 => ?_) (fun c3 => ?_)
    · have hf := op_t hf c3
      refine lv_iconst (v := 0) hx hb d_Lw_search_18 (by decide) ?_
      refine lv_istore (lv' := [(4, .int 0), (0, .ref h_lw), (1, .int p1), (2, .int p2), (3, .int p3)]) hx hb d_Lw_search_19 hl (by decide) rfl (fun ls hl => ?_)
      have lp_21 : ∀ (n : Nat) (x1 : Int32) (x2 : Int32) (x3 : Int32) (x4 : Int32) (lw : MS) (Rl : Int32 × MS), l_Lw_search_21 rc n x1 x2 x3 x4 lw = some Rl → ∀ (H : Heap) (locs : List Loc), va_P (dC, dI) vwCl (w_Lw_ h_lw ad_lw tC lw) H → va_D A (w_Lw_ h_lw ad_lw tC lw) → va_S A s.heap H locs → ∀ ls : Array Slot, lv_has ls 5 [(4, .int x4), (0, .ref h_lw), (1, .int x1), (2, .int x2), (3, .int x3)] → (∀ (H : Heap) (locs : List Loc), va_P (dC, dI) vwCl (w_Lw_ h_lw ad_lw tC Rl.2) H → va_D A (w_Lw_ h_lw ad_lw tC Rl.2) → va_S A s.heap H locs → ∀ ls : Array Slot, lv_has ls 5 [(4, .int Rl.1), (0, .ref h_lw), (1, .int x1), (2, .int x2), (3, .int x3)] → W p l e (rm_Lw_search rr) s m args below meth c H locs 0 0 Q (F0 m 90 ls [])) → W p l e (rm_Lw_search rr) s m args below meth c H locs 0 0 Q (F0 m 21 ls []) := by
        intro n
        induction n with
        | zero => intro x1 x2 x3 x4 lw Rl hf; cases hf
        | succ n ih_21 =>
          intro x1 x2 x3 x4 lw Rl hf H locs hP hD hS ls hl Kk
          rw [l_Lw_search_21] at hf
          refine lv_iload hx hb d_Lw_search_21 (lv_at hl 0 rfl) ?_
          refine lv_aload_n hx hb d_Lw_search_23 rfl (lv_at hl 1 rfl) ?_
          refine va_get (D := (dC, dI)) (ci := 1) (v := .int (lw.1 0)) (C := RX1) (T := TX1) (N := 11) hx hb hts in_X1 hown hK hP 0 rfl rfl 8 (by decide) (hts _ kF_1_47) (fun _ h9 => h9) rfl d_Lw_search_24 ?_
          refine lv_icmp_ge (tgt := 90) hx hb d_Lw_search_27 (by decide) (fun c5 => ?_) (fun c5 => ?_)
          · have hf := op_t hf c5
            obtain rfl := Option.some.inj hf
            exact Kk _ _ hP hD hS _ (lv_sub hl [0, 1, 2, 3, 4] rfl)
          · have hf := op_e hf c5
            refine lv_aload_n hx hb d_Lw_search_30 rfl (lv_at hl 1 rfl) ?_
            refine va_get (D := (dC, dI)) (ci := 1) (v := .ref (ad_lw 3)) (C := RX1) (T := TX1) (N := 11) hx hb hts in_X1 hown hK hP 0 rfl rfl 3 (by decide) (hts _ kF_1_21) (fun _ h9 => h9) rfl d_Lw_search_31 ?_
            refine lv_iload hx hb d_Lw_search_34 (lv_at hl 0 rfl) ?_
            obtain ⟨hi6, hf⟩ := op_if hf
            refine va_iald (f := lw.2.1 3) hx hb hK hP 4 0 rfl rfl (ix_in hi6) d_Lw_search_36 ?_
            refine lv_if_le (tgt := 84) hx hb d_Lw_search_37 (by decide) (fun c7 => ?_) (fun c7 => ?_)
            · have hf := op_t hf c7
              refine lv_iinc (v := x4 + 1) (lv' := [(4, .int (x4 + 1)), (0, .ref h_lw), (1, .int x1), (2, .int x2), (3, .int x3)]) hx hb d_Lw_search_84 hl (k := 0) rfl rfl (by decide) rfl (fun ls hl => ?_)
              refine lv_goto (tgt := 21) hx hb d_Lw_search_87 (by decide) ?_
              exact ih_21 x1 x2 x3 (x4 + 1) lw Rl hf _ _ hP hD hS _ (lv_sub hl [0, 1, 2, 3, 4] rfl) Kk
            · have hf := op_e hf c7
              refine lv_aload_n hx hb d_Lw_search_40 rfl (lv_at hl 1 rfl) ?_
              refine va_get (D := (dC, dI)) (ci := 1) (v := .ref (ad_lw 3)) (C := RX1) (T := TX1) (N := 11) hx hb hts in_X1 hown hK hP 0 rfl rfl 3 (by decide) (hts _ kF_1_21) (fun _ h9 => h9) rfl d_Lw_search_41 ?_
              refine lv_iload hx hb d_Lw_search_44 (lv_at hl 0 rfl) ?_
              refine lv_dup2_11 hx hb d_Lw_search_46 rfl rfl ?_
              obtain ⟨hi8, hf⟩ := op_if hf
              refine va_iald (f := lw.2.1 3) hx hb hK hP 4 0 rfl rfl (ix_in hi8) d_Lw_search_47 ?_
              refine lv_iconst (v := 1) hx hb d_Lw_search_48 (by decide) ?_
              refine lv_isub hx hb d_Lw_search_49 ?_
              obtain ⟨hi9, hf⟩ := op_if hf
              refine va_iast (f := lw.2.1 3) hx hb hK hP hD hS 4 0 rfl rfl (ix_in hi9) d_Lw_search_50 (fun H locs hP hD hS => ?_)
              rw [wu_Lw_a3] at hP hD
              obtain ⟨lw10, hlw10, hf⟩ := op_b hf
              have hP : va_P (dC, dI) vwCl (w_Lw_ h_lw ad_lw tC lw10) H := by rw [← Option.some.inj hlw10]; exact hP
              have hD : va_D A (w_Lw_ h_lw ad_lw tC lw10) := by rw [← Option.some.inj hlw10]; exact hD
              refine lv_aload_n hx hb d_Lw_search_51 rfl (lv_at hl 1 rfl) ?_
              refine va_get (D := (dC, dI)) (ci := 1) (v := .ref (ad_lw 4)) (C := RX1) (T := TX1) (N := 11) hx hb hts in_X1 hown hK hP 0 rfl rfl 4 (by decide) (hts _ kF_1_24) (fun _ h9 => h9) rfl d_Lw_search_52 ?_
              refine lv_iload_n hx hb d_Lw_search_55 rfl (lv_at hl 2 rfl) ?_
              refine lv_iload hx hb d_Lw_search_56 (lv_at hl 0 rfl) ?_
              obtain ⟨hi11, hf⟩ := op_if hf
              refine va_iast (f := lw10.2.1 4) hx hb hK hP hD hS 5 0 rfl rfl (ix_in hi11) d_Lw_search_58 (fun H locs hP hD hS => ?_)
              rw [wu_Lw_a4] at hP hD
              obtain ⟨lw12, hlw12, hf⟩ := op_b hf
              have hP : va_P (dC, dI) vwCl (w_Lw_ h_lw ad_lw tC lw12) H := by rw [← Option.some.inj hlw12]; exact hP
              have hD : va_D A (w_Lw_ h_lw ad_lw tC lw12) := by rw [← Option.some.inj hlw12]; exact hD
              refine lv_aload_n hx hb d_Lw_search_59 rfl (lv_at hl 1 rfl) ?_
              refine lv_iload_n hx hb d_Lw_search_60 rfl (lv_at hl 2 rfl) ?_
              refine lv_iload_n hx hb d_Lw_search_61 rfl (lv_at hl 3 rfl) ?_
              refine lv_iload_n hx hb d_Lw_search_62 rfl (lv_at hl 4 rfl) ?_
              refine lv_aload_n hx hb d_Lw_search_63 rfl (lv_at hl 1 rfl) ?_
              refine lv_iload hx hb d_Lw_search_64 (lv_at hl 0 rfl) ?_
              obtain ⟨q13, hq13, hf⟩ := op_b hf
              refine ro_go rfl (va_runV (As := [.int x4]) (rest := [.int x3, .int x2, .int x1, .ref h_lw]) ⟨hx, hb, hml, hown, hts⟩ (m_Lw_costOfBar l dC dI tC h_lw ad_lw lw12 x4 q13 _ hP hq13) (cwV 1 hts (gd_V kM_1_97 kI_Lw_costOfBar kV_Lw_costOfBar kZ_1 kC_Lw_costOfBar) rfl rfl rfl (by decide +kernel) ⟨by show 0 + 1 ≤ rr.frames + 10; omega, by show 8 + (2 + 11) + (0) ≤ rr.locals + 600; omega⟩) ⟨ro_blind, va_recv hK hP (ci := 1) (q0 := 0) rfl rfl, ro_pre hK⟩ rfl rfl hl.1 rfl (lv_room (Nat.le_of_ble_eq_true rfl)) d_Lw_search_66 ⟨(Nat.le_of_ble_eq_true rfl), (Nat.le_of_ble_eq_true rfl)⟩) ?_
              refine W.eq (g2 := F0 m 69 ls [.int q13, .int x3, .int x2, .int x1, .ref h_lw]) rfl ?_
              refine lv_iadd hx hb d_Lw_search_69 ?_
              obtain ⟨q14, hq14, hf⟩ := op_b hf
              have hPc := hP
              have hDc := hD
              have hFc := va_free (wc := (w_Lw_ h_lw ad_lw tC lw12)) hD hS hA [0, 1, 2, 3, 4, 5, 6, 7, 8] rfl
              refine wr_go (va_runV (As := [.int x1, .int x2, .int (x3 + q13)]) (rest := []) ⟨hx, hb, hml, hown, hts⟩ (m_Lw_searchRows l dC dI tC rc rr hrc hz h_lw ad_lw lw12 x1 x2 (x3 + q13) q14 hq14 _) (cwV 3 hts (gd_V kM_1_104 kI_Lw_searchRows kV_Lw_searchRows kZ_1 kC_Lw_searchRows) rfl rfl rfl (by decide +kernel) ⟨by show rr.frames + 5 + 1 ≤ rr.frames + 10; omega, by show 8 + (7 + 11) + (rr.locals + 300) ≤ rr.locals + 600; omega⟩) ⟨wr_blind, va_recv hK hP (ci := 1) (q0 := 0) rfl rfl, wr_pre hK hPc hDc⟩ rfl rfl hl.1 rfl (lv_room (Nat.le_of_ble_eq_true rfl)) d_Lw_search_70 ⟨(Nat.le_of_ble_eq_true rfl), (Nat.le_of_ble_eq_true rfl)⟩) hS hFc (fun r w1 H1 locs hw hP1 hD1 hk1 hS => ?_)
              obtain ⟨rfl, rfl⟩ := hw
              have hP := hP1
              have hD := hD1.weaken (fun _ q _ h => hFc q.1 h)
              clear hP1 hD1 hk1 hPc hDc hFc
              have hP : va_P (dC, dI) vwCl (w_Lw_ h_lw ad_lw tC q14.2) _ := hP
              have hD : va_D A (w_Lw_ h_lw ad_lw tC q14.2) := hD
              refine W.eq (g2 := F0 m 73 ls []) rfl ?_
              refine lv_aload_n hx hb d_Lw_search_73 rfl (lv_at hl 1 rfl) ?_
              refine va_get (D := (dC, dI)) (ci := 1) (v := .ref (ad_lw 3)) (C := RX1) (T := TX1) (N := 11) hx hb hts in_X1 hown hK hP 0 rfl rfl 3 (by decide) (hts _ kF_1_21) (fun _ h9 => h9) rfl d_Lw_search_74 ?_
              refine lv_iload hx hb d_Lw_search_77 (lv_at hl 0 rfl) ?_
              refine lv_dup2_11 hx hb d_Lw_search_79 rfl rfl ?_
              obtain ⟨hi15, hf⟩ := op_if hf
              refine va_iald (f := q14.2.2.1 3) hx hb hK hP 4 0 rfl rfl (ix_in hi15) d_Lw_search_80 ?_
              refine lv_iconst (v := 1) hx hb d_Lw_search_81 (by decide) ?_
              refine lv_iadd hx hb d_Lw_search_82 ?_
              obtain ⟨hi16, hf⟩ := op_if hf
              refine va_iast (f := q14.2.2.1 3) hx hb hK hP hD hS 4 0 rfl rfl (ix_in hi16) d_Lw_search_83 (fun H locs hP hD hS => ?_)
              rw [wu_Lw_a3] at hP hD
              obtain ⟨lw17, hlw17, hf⟩ := op_b hf
              have hP : va_P (dC, dI) vwCl (w_Lw_ h_lw ad_lw tC lw17) H := by rw [← Option.some.inj hlw17]; exact hP
              have hD : va_D A (w_Lw_ h_lw ad_lw tC lw17) := by rw [← Option.some.inj hlw17]; exact hD
              refine lv_iinc (v := x4 + 1) (lv' := [(4, .int (x4 + 1)), (0, .ref h_lw), (1, .int x1), (2, .int x2), (3, .int x3)]) hx hb d_Lw_search_84 hl (k := 0) rfl rfl (by decide) rfl (fun ls hl => ?_)
              refine lv_goto (tgt := 21) hx hb d_Lw_search_87 (by decide) ?_
              exact ih_21 x1 x2 x3 (x4 + 1) lw17 Rl hf _ _ hP hD hS _ (lv_sub hl [0, 1, 2, 3, 4] rfl) Kk
      obtain ⟨q4, hq4, hf⟩ := op_b hf
      refine lp_21 fu p1 p2 p3 0 lw q4 hq4 _ _ hP hD hS _ (lv_sub hl [0, 1, 2, 3, 4] rfl) ?_
      intro H locs hP hD hS ls hl
      obtain rfl := Option.some.inj hf
      subst hQ
      subst hAe
      exact W.vret hx hb hr (fun t ht hW => ⟨⟨_, _, rfl, ⟨rfl, rfl⟩, by rw [ht]; exact hP, hD⟩, hS.F ht⟩) hS.2.2 d_Lw_search_90
    · have hf := op_e hf c3
      obtain rfl := Option.some.inj hf
      subst hQ
      subst hAe
      exact W.vret hx hb hr (fun t ht hW => ⟨⟨_, _, rfl, ⟨rfl, rfl⟩, by rw [ht]; exact hP, hD⟩, hS.F ht⟩) hS.2.2 d_Lw_search_17
  · have hf := op_t hf c1
    refine lv_aload_n hx hb d_Lw_search_4 rfl (lv_at hl 0 rfl) ?_
    refine lv_iload_n hx hb d_Lw_search_5 rfl (lv_at hl 1 rfl) ?_
    refine lv_iload_n hx hb d_Lw_search_6 rfl (lv_at hl 3 rfl) ?_
    obtain ⟨q2, hq2, hf⟩ := op_b hf
    have hPc := hP
    have hDc := hD
    have hFc := va_free (wc := (w_Lw_ h_lw ad_lw tC lw)) hD hS hA [0, 1, 2, 3, 4, 5, 6, 7, 8] rfl
    refine wr_go (va_runV (As := [.int p1, .int p3]) (rest := []) ⟨hx, hb, hml, hown, hts⟩ (m_Lw_keep l dC dI tC h_lw ad_lw lw p1 p3 q2 hq2 _) (cwV 2 hts (gd_V kM_1_100 kI_Lw_keep kV_Lw_keep kZ_1 kC_Lw_keep) rfl rfl rfl (by decide +kernel) ⟨by show 0 + 1 ≤ rr.frames + 10; omega, by show 8 + (4 + 11) + (0) ≤ rr.locals + 600; omega⟩) ⟨wr_blind, va_recv hK hP (ci := 1) (q0 := 0) rfl rfl, wr_pre hK hPc hDc⟩ rfl rfl hl.1 rfl (lv_room (Nat.le_of_ble_eq_true rfl)) d_Lw_search_7 ⟨(Nat.le_of_ble_eq_true rfl), (Nat.le_of_ble_eq_true rfl)⟩) hS hFc (fun r w1 H1 locs hw hP1 hD1 hk1 hS => ?_)
    obtain ⟨rfl, rfl⟩ := hw
    have hP := hP1
    have hD := hD1.weaken (fun _ q _ h => hFc q.1 h)
    clear hP1 hD1 hk1 hPc hDc hFc
    have hP : va_P (dC, dI) vwCl (w_Lw_ h_lw ad_lw tC q2.2) _ := hP
    have hD : va_D A (w_Lw_ h_lw ad_lw tC q2.2) := hD
    refine W.eq (g2 := F0 m 10 ls []) rfl ?_
    obtain rfl := Option.some.inj hf
    subst hQ
    subst hAe
    exact W.vret hx hb hr (fun t ht hW => ⟨⟨_, _, rfl, ⟨rfl, rfl⟩, by rw [ht]; exact hP, hD⟩, hS.F ht⟩) hS.2.2 d_Lw_search_10
def f_Lw_search : Nat → MS → Int32 → Int32 → Int32 → Option (Unit × MS)
  | 0, _, _, _, _ => none
  | n + 1, lw, p1, p2, p3 => f_Lw_searchB (f_Lw_search n) lw p1 p2 p3
def rq : Nat → Room
  | 0 => { frames := 10, cells := 0, slots := 0, locals := 600 }
  | n + 1 => rm_Lw_search (rq n)
theorem rq_z : ∀ n, (rq n).cells = 0 ∧ (rq n).slots = 0
  | 0 => ⟨rfl, rfl⟩
  | _ + 1 => ⟨rfl, rfl⟩
theorem m_Lw_search (l : Launch) (dC : Nat → ClassId) (dI : Nat → Nat → Nat) (tC : Nat → ClassId) : ∀ (n : Nat) (h_lw : Nat) (ad_lw : Nat → Nat) (lw : MS) (p1 p2 p3 : Int32) (R : Unit × MS), f_Lw_search n lw p1 p2 p3 = some R → ∀ sz : Nat, Met l y_Lw_search w_Lw_search (rq n) (wrP (dC, dI) tC (w_Lw_ h_lw ad_lw tC lw) sz [.ref h_lw, .int p1, .int p2, .int p3]) (wrQ (dC, dI) (w_Lw_ h_lw ad_lw tC lw) sz (fun r w => r = none ∧ w = w_Lw_ h_lw ad_lw tC R.2)) 0 0 (va_A (w_Lw_ h_lw ad_lw tC lw) sz) := by
  intro n
  induction n with
  | zero => intro h_lw ad_lw lw p1 p2 p3 R hf; cases hf
  | succ n ih =>
    intro h_lw ad_lw lw p1 p2 p3 R hf sz
    exact m_Lw_searchB l dC dI tC (f_Lw_search n) (rq n) ih (rq_z n) h_lw ad_lw lw p1 p2 p3 R hf sz
def f_Lw_cut (pl : MS) (lw : MS) (sf : MS) (p2 : Int32) (p3 : Int32) : Option (Int32 × MS × MS) := (some ((pl.1 0) - p2) : Option Int32).bind fun v1 => (if v1 < 1 then some (0, pl, lw) else (if v1 ≤ 8 then (some (sI lw 0 (sf.1 0))).bind fun lw4 => (some (sA lw4 2 (va_cpy (sf.2.1 0) (lw4.2.1 2) (0 : Int32).toNatClampNeg (0 : Int32).toNatClampNeg (3 : Int32).toNatClampNeg))).bind fun lw5 => (some (sA lw5 3 (va_cpy (sf.2.1 1) (lw5.2.1 3) (0 : Int32).toNatClampNeg (0 : Int32).toNatClampNeg (3 : Int32).toNatClampNeg))).bind fun lw6 => (f_Lw_sumSets lw6 pl p2 v1).bind fun q7 => (f_Lw_findFloors q7.2 v1).bind fun q8 => (some (sI q8.2 1 268435456)).bind fun lw9 => (some (sI lw9 2 0)).bind fun lw10 => (f_Lw_search 12 lw10 0 ((1 <<< (v1 &&& 31)) - 1) 0).bind fun q11 => (if (q11.2.1 1) = 268435456 then some (0, pl, q11.2) else (f_Lw_writeBest q11.2 pl p2 p3).bind fun q13 => if q13.1 = 0 ∨ q13.1 = 1 then some (q13.1, q13.2, q11.2) else none) else some (0, pl, lw)))
def rm_Lw_cut : Room := { frames := 131, cells := 0, slots := 0, locals := 7824 }
set_option maxHeartbeats 4000000 in
set_option maxRecDepth 100000 in
theorem m_Lw_cut (l : Launch) (dC : Nat → ClassId) (dI : Nat → Nat → Nat) (tC : Nat → ClassId) (h_pl : Nat) (ad_pl : Nat → Nat) (pl : MS) (h_lw : Nat) (ad_lw : Nat → Nat) (lw : MS) (h_sf : Nat) (ad_sf : Nat → Nat) (sf : MS) (p2 : Int32) (p3 : Int32) (R : Int32 × MS × MS) (hf : f_Lw_cut pl lw sf p2 p3 = some R) (sz : Nat) : Met l y_Lw_cut w_Lw_cut rm_Lw_cut (wrP (dC, dI) tC (w_Pl_ h_pl ad_pl tC pl ++ (w_Lw_ h_lw ad_lw tC lw ++ w_Sf_ h_sf ad_sf tC sf)) sz [.ref h_lw, .ref h_pl, .int p2, .int p3, .ref h_sf]) (wrQ (dC, dI) (w_Pl_ h_pl ad_pl tC pl ++ (w_Lw_ h_lw ad_lw tC lw ++ w_Sf_ h_sf ad_sf tC sf)) sz (fun r w => r = (some (.int R.1)) ∧ w = (w_Pl_ h_pl ad_pl tC R.2.1 ++ (w_Lw_ h_lw ad_lw tC R.2.2 ++ w_Sf_ h_sf ad_sf tC sf)))) 0 0 (va_A (w_Pl_ h_pl ad_pl tC pl ++ (w_Lw_ h_lw ad_lw tC lw ++ w_Sf_ h_sf ad_sf tC sf)) sz) := by
  refine Met.ofW (cc := c_Lw_cut) (maxL := 6) (ret := (some (.boolean))) (by decide) rfl ?_
  intro p e s m args below meth c s₁ B hml hv
  obtain ⟨hav, hsz, hP, hK, hD0⟩ := hv
  have hx := B.exec
  have hb := B.bytes
  have hr := B.returns
  have hts : ∀ w ∈ gw, w.before args s = true := fun w h => atoms_spec (ws := w_Lw_cut) B.pre w (List.mem_cons_of_mem _ h)
  have hown : s.vm.findClass RX1 = some m.cls := findClass_of_methodNamed B.named
  have hlocks := B.notSynchronized
  subst hsz
  have hD := hD0.self (sz := s.heap.size)
  obtain ⟨A, hAe⟩ : ∃ z, z = va_A (w_Pl_ h_pl ad_pl tC pl ++ (w_Lw_ h_lw ad_lw tC lw ++ w_Sf_ h_sf ad_sf tC sf)) s.heap.size := ⟨_, rfl⟩
  rw [← hAe] at hD
  have hA : ∀ q : Nat, s.heap.size ≤ q → A q := fun q h => by rw [hAe]; exact Or.inr h
  have hS : va_S A s.heap s.heap [] := va_S.rf
  refine q_w (R := rm_Lw_cut) (fun Q hQ => ?_)
  refine en_w (av := [.ref h_lw, .ref h_pl, .int p2, .int p3, .ref h_sf]) hav (Nat.le_of_ble_eq_true rfl) (fun ls hl => ?_)
  have hl : lv_has ls 6 [(0, .ref h_lw), (1, .ref h_pl), (2, .int p2), (3, .int p3), (4, .ref h_sf)] := hl
  unfold f_Lw_cut at hf
  refine lv_aload_n hx hb d_Lw_cut_0 rfl (lv_at hl 1 rfl) ?_
  refine va_get (D := (dC, dI)) (ci := 3) (v := .int (pl.1 0)) (C := RX3) (T := TX3) (N := 12) hx hb hts in_X3 hown hK hP 0 rfl rfl 7 (by decide) (hts _ kF_1_36) (fun _ h9 => h9) rfl d_Lw_cut_1 ?_
  refine lv_iload_n hx hb d_Lw_cut_4 rfl (lv_at hl 2 rfl) ?_
  refine lv_isub hx hb d_Lw_cut_5 ?_
  obtain ⟨v1, hv1, hf⟩ := op_b hf
  refine rw_i (y := v1) (Option.some.inj hv1) ?_
  refine lv_istore (lv' := [(5, .int v1), (0, .ref h_lw), (1, .ref h_pl), (2, .int p2), (3, .int p3), (4, .ref h_sf)]) hx hb d_Lw_cut_6 hl (by decide) rfl (fun ls hl => ?_)
  refine lv_iload hx hb d_Lw_cut_8 (lv_at hl 0 rfl) ?_
  refine lv_iconst (v := 1) hx hb d_Lw_cut_10 (by decide) ?_
  refine lv_icmp_lt (tgt := 21) hx hb d_Lw_cut_11 (by decide) (fun c2 => ?_) (fun c2 => ?_)
  · have hf := op_t hf c2
    refine lv_iconst (v := 0) hx hb d_Lw_cut_21 (by decide) ?_
    obtain rfl := Option.some.inj hf
    subst hQ
    subst hAe
    exact W.zret (v := 0) (ty := .boolean) hx hb hr (by decide) (fun t ht hW => ⟨⟨_, _, rfl, ⟨rfl, rfl⟩, by rw [ht]; exact hP, hD⟩, hS.F ht⟩) hS.2.2 d_Lw_cut_22
  · have hf := op_e hf c2
    refine lv_iload hx hb d_Lw_cut_14 (lv_at hl 0 rfl) ?_
    refine lv_bipush (v := 8) hx hb d_Lw_cut_16 (by decide) ?_
    refine lv_icmp_le (tgt := 23) hx hb d_Lw_cut_18 (by decide) (fun c3 => ?_) (fun c3 => ?_)
    · have hf := op_t hf c3
      refine lv_aload_n hx hb d_Lw_cut_23 rfl (lv_at hl 1 rfl) ?_
      refine lv_aload hx hb d_Lw_cut_24 (lv_at hl 5 rfl) ?_
      refine va_get (D := (dC, dI)) (ci := 5) (v := .int (sf.1 0)) (C := RX5) (T := TX5) (N := 3) hx hb hts in_X5 hown hK hP 17 rfl rfl 2 (by decide) (hts _ kF_1_42) (fun _ h9 => h9) rfl d_Lw_cut_26 ?_
      refine va_put (D := (dC, dI)) (ci := 1) (v := .int (sf.1 0)) (ty := .int) (C := RX1) (T := TX1) (N := 11) hx hb hts in_X1 tyX1 tyX1_ok nmX1 hown hK hP hD hS 8 (fs := [.ref (ad_lw 0), .ref (ad_lw 1), .ref (ad_lw 2), .ref (ad_lw 3), .ref (ad_lw 4), .ref (ad_lw 5), .ref (ad_lw 6), .ref (ad_lw 7), .int (lw.1 0), .int (lw.1 1), .int (lw.1 2)]) rfl rfl 8 (by decide) (hts _ kF_1_47) (fun _ h9 => h9) rfl (by decide +kernel) (rfl) (rfl) (Nat.le_of_ble_eq_true rfl) d_Lw_cut_29 (fun H locs hP hD hS => ?_)
      rw [sr_Pl, sl_Lw_0, wu_Lw_s0] at hP hD
      obtain ⟨lw4, hlw4, hf⟩ := op_b hf
      have hP : va_P (dC, dI) vwCl (w_Pl_ h_pl ad_pl tC pl ++ (w_Lw_ h_lw ad_lw tC lw4 ++ w_Sf_ h_sf ad_sf tC sf)) H := by rw [← Option.some.inj hlw4]; exact hP
      have hD : va_D A (w_Pl_ h_pl ad_pl tC pl ++ (w_Lw_ h_lw ad_lw tC lw4 ++ w_Sf_ h_sf ad_sf tC sf)) := by rw [← Option.some.inj hlw4]; exact hD
      refine lv_aload hx hb d_Lw_cut_32 (lv_at hl 5 rfl) ?_
      refine va_get (D := (dC, dI)) (ci := 5) (v := .ref (ad_sf 0)) (C := RX5) (T := TX5) (N := 3) hx hb hts in_X5 hown hK hP 17 rfl rfl 0 (by decide) (hts _ kF_1_48) (fun _ h9 => h9) rfl d_Lw_cut_34 ?_
      refine lv_iconst (v := 0) hx hb d_Lw_cut_37 (by decide) ?_
      refine lv_aload_n hx hb d_Lw_cut_38 rfl (lv_at hl 1 rfl) ?_
      refine va_get (D := (dC, dI)) (ci := 1) (v := .ref (ad_lw 2)) (C := RX1) (T := TX1) (N := 11) hx hb hts in_X1 hown hK hP 8 rfl rfl 2 (by decide) (hts _ kF_1_18) (fun _ h9 => h9) rfl d_Lw_cut_39 ?_
      refine lv_iconst (v := 0) hx hb d_Lw_cut_42 (by decide) ?_
      refine lv_iconst (v := 3) hx hb d_Lw_cut_43 (by decide) ?_
      refine va_copyi (f := sf.2.1 0) (g := lw4.2.1 2) hx hb (hml.trans hl.1.symm) hown (hts _ kM_1_49) (hts _ kN_copy) (hts _ kS_copy) (hts _ kZ_System) hK hP hD hS 18 11 0 0 (ty := .int) rfl rfl rfl rfl rfl (by decide) (by decide) (by decide) (by decide) (by decide) (fun _ _ => rfl) (Nat.le_of_ble_eq_true rfl) (Nat.le_of_ble_eq_true rfl) d_Lw_cut_44 (fun H locs hP hD hS => ?_)
      rw [sr_Pl, sl_Lw_3, wu_Lw_a2] at hP hD
      obtain ⟨lw5, hlw5, hf⟩ := op_b hf
      have hP : va_P (dC, dI) vwCl (w_Pl_ h_pl ad_pl tC pl ++ (w_Lw_ h_lw ad_lw tC lw5 ++ w_Sf_ h_sf ad_sf tC sf)) H := by rw [← Option.some.inj hlw5]; exact hP
      have hD : va_D A (w_Pl_ h_pl ad_pl tC pl ++ (w_Lw_ h_lw ad_lw tC lw5 ++ w_Sf_ h_sf ad_sf tC sf)) := by rw [← Option.some.inj hlw5]; exact hD
      refine lv_aload hx hb d_Lw_cut_47 (lv_at hl 5 rfl) ?_
      refine va_get (D := (dC, dI)) (ci := 5) (v := .ref (ad_sf 1)) (C := RX5) (T := TX5) (N := 3) hx hb hts in_X5 hown hK hP 17 rfl rfl 1 (by decide) (hts _ kF_1_55) (fun _ h9 => h9) rfl d_Lw_cut_49 ?_
      refine lv_iconst (v := 0) hx hb d_Lw_cut_52 (by decide) ?_
      refine lv_aload_n hx hb d_Lw_cut_53 rfl (lv_at hl 1 rfl) ?_
      refine va_get (D := (dC, dI)) (ci := 1) (v := .ref (ad_lw 3)) (C := RX1) (T := TX1) (N := 11) hx hb hts in_X1 hown hK hP 8 rfl rfl 3 (by decide) (hts _ kF_1_21) (fun _ h9 => h9) rfl d_Lw_cut_54 ?_
      refine lv_iconst (v := 0) hx hb d_Lw_cut_57 (by decide) ?_
      refine lv_iconst (v := 3) hx hb d_Lw_cut_58 (by decide) ?_
      refine va_copyi (f := sf.2.1 1) (g := lw5.2.1 3) hx hb (hml.trans hl.1.symm) hown (hts _ kM_1_49) (hts _ kN_copy) (hts _ kS_copy) (hts _ kZ_System) hK hP hD hS 19 12 0 0 (ty := .int) rfl rfl rfl rfl rfl (by decide) (by decide) (by decide) (by decide) (by decide) (fun _ _ => rfl) (Nat.le_of_ble_eq_true rfl) (Nat.le_of_ble_eq_true rfl) d_Lw_cut_59 (fun H locs hP hD hS => ?_)
      rw [sr_Pl, sl_Lw_4, wu_Lw_a3] at hP hD
      obtain ⟨lw6, hlw6, hf⟩ := op_b hf
      have hP : va_P (dC, dI) vwCl (w_Pl_ h_pl ad_pl tC pl ++ (w_Lw_ h_lw ad_lw tC lw6 ++ w_Sf_ h_sf ad_sf tC sf)) H := by rw [← Option.some.inj hlw6]; exact hP
      have hD : va_D A (w_Pl_ h_pl ad_pl tC pl ++ (w_Lw_ h_lw ad_lw tC lw6 ++ w_Sf_ h_sf ad_sf tC sf)) := by rw [← Option.some.inj hlw6]; exact hD
      refine lv_aload_n hx hb d_Lw_cut_62 rfl (lv_at hl 1 rfl) ?_
      refine lv_aload_n hx hb d_Lw_cut_63 rfl (lv_at hl 2 rfl) ?_
      refine lv_iload_n hx hb d_Lw_cut_64 rfl (lv_at hl 3 rfl) ?_
      refine lv_iload hx hb d_Lw_cut_65 (lv_at hl 0 rfl) ?_
      obtain ⟨q7, hq7, hf⟩ := op_b hf
      have hPc := hP.sub (ws' := (w_Lw_ h_lw ad_lw tC lw6 ++ w_Pl_ h_pl ad_pl tC pl)) [8, 9, 10, 11, 12, 13, 14, 15, 16, 0, 1, 2, 3, 4, 5, 6, 7] rfl
      have hDc := hD.sub (ws' := (w_Lw_ h_lw ad_lw tC lw6 ++ w_Pl_ h_pl ad_pl tC pl)) [8, 9, 10, 11, 12, 13, 14, 15, 16, 0, 1, 2, 3, 4, 5, 6, 7] (by decide) rfl
      have hFc := va_free (wc := (w_Lw_ h_lw ad_lw tC lw6 ++ w_Pl_ h_pl ad_pl tC pl)) hD hS hA [8, 9, 10, 11, 12, 13, 14, 15, 16, 0, 1, 2, 3, 4, 5, 6, 7] rfl
      refine wr_go (va_runV (As := [.ref h_pl, .int p2, .int v1]) (rest := []) ⟨hx, hb, hml, hown, hts⟩ (m_Lw_sumSets l dC dI tC h_lw ad_lw lw6 h_pl ad_pl pl p2 v1 q7 hq7 _) (cwV 3 hts (gd_V kM_1_58 kI_Lw_sumSets kV_Lw_sumSets kZ_1 kC_Lw_sumSets) rfl rfl rfl (by decide +kernel) ⟨(Nat.le_of_ble_eq_true rfl), (Nat.le_of_ble_eq_true rfl)⟩) ⟨wr_blind, va_recv hK hP (ci := 1) (q0 := 8) rfl rfl, wr_pre hK hPc hDc⟩ rfl rfl hl.1 rfl (lv_room (Nat.le_of_ble_eq_true rfl)) d_Lw_cut_67 ⟨(Nat.le_of_ble_eq_true rfl), (Nat.le_of_ble_eq_true rfl)⟩) hS hFc (fun r w1 H1 locs hw hP1 hD1 hk1 hS => ?_)
      obtain ⟨rfl, rfl⟩ := hw
      obtain ⟨hP, hD⟩ := jn_S hP hD [8, 9, 10, 11, 12, 13, 14, 15, 16, 0, 1, 2, 3, 4, 5, 6, 7] (wc := (w_Lw_ h_lw ad_lw tC lw6 ++ w_Pl_ h_pl ad_pl tC pl)) rfl hk1 hP1 rfl
      clear hP1 hD1 hk1 hPc hDc hFc
      have hP : va_P (dC, dI) vwCl (w_Pl_ h_pl ad_pl tC pl ++ (w_Lw_ h_lw ad_lw tC q7.2 ++ w_Sf_ h_sf ad_sf tC sf)) _ := hP
      have hD : va_D A (w_Pl_ h_pl ad_pl tC pl ++ (w_Lw_ h_lw ad_lw tC q7.2 ++ w_Sf_ h_sf ad_sf tC sf)) := hD
      refine W.eq (g2 := F0 m 70 ls []) rfl ?_
      refine lv_aload_n hx hb d_Lw_cut_70 rfl (lv_at hl 1 rfl) ?_
      refine lv_iload hx hb d_Lw_cut_71 (lv_at hl 0 rfl) ?_
      obtain ⟨q8, hq8, hf⟩ := op_b hf
      have hPc := hP.sub (ws' := (w_Lw_ h_lw ad_lw tC q7.2)) [8, 9, 10, 11, 12, 13, 14, 15, 16] rfl
      have hDc := hD.sub (ws' := (w_Lw_ h_lw ad_lw tC q7.2)) [8, 9, 10, 11, 12, 13, 14, 15, 16] (by decide) rfl
      have hFc := va_free (wc := (w_Lw_ h_lw ad_lw tC q7.2)) hD hS hA [8, 9, 10, 11, 12, 13, 14, 15, 16] rfl
      refine wr_go (va_runV (As := [.int v1]) (rest := []) ⟨hx, hb, hml, hown, hts⟩ (m_Lw_findFloors l dC dI tC h_lw ad_lw q7.2 v1 q8 hq8 _) (cwV 1 hts (gd_V kM_1_62 kI_Lw_findFloors kV_Lw_findFloors kZ_1 kC_Lw_findFloors) rfl rfl rfl (by decide +kernel) ⟨(Nat.le_of_ble_eq_true rfl), (Nat.le_of_ble_eq_true rfl)⟩) ⟨wr_blind, va_recv hK hP (ci := 1) (q0 := 8) rfl rfl, wr_pre hK hPc hDc⟩ rfl rfl hl.1 rfl (lv_room (Nat.le_of_ble_eq_true rfl)) d_Lw_cut_73 ⟨(Nat.le_of_ble_eq_true rfl), (Nat.le_of_ble_eq_true rfl)⟩) hS hFc (fun r w1 H1 locs hw hP1 hD1 hk1 hS => ?_)
      obtain ⟨rfl, rfl⟩ := hw
      obtain ⟨hP, hD⟩ := jn_S hP hD [8, 9, 10, 11, 12, 13, 14, 15, 16] (wc := (w_Lw_ h_lw ad_lw tC q7.2)) rfl hk1 hP1 rfl
      clear hP1 hD1 hk1 hPc hDc hFc
      have hP : va_P (dC, dI) vwCl (w_Pl_ h_pl ad_pl tC pl ++ (w_Lw_ h_lw ad_lw tC q8.2 ++ w_Sf_ h_sf ad_sf tC sf)) _ := hP
      have hD : va_D A (w_Pl_ h_pl ad_pl tC pl ++ (w_Lw_ h_lw ad_lw tC q8.2 ++ w_Sf_ h_sf ad_sf tC sf)) := hD
      refine W.eq (g2 := F0 m 76 ls []) rfl ?_
      refine lv_aload_n hx hb d_Lw_cut_76 rfl (lv_at hl 1 rfl) ?_
      refine lv_ldc (v := 268435456) hx hb hown (hts _ kK_1_66) d_Lw_cut_77 ?_
      refine va_put (D := (dC, dI)) (ci := 1) (v := .int 268435456) (ty := .int) (C := RX1) (T := TX1) (N := 11) hx hb hts in_X1 tyX1 tyX1_ok nmX1 hown hK hP hD hS 8 (fs := [.ref (ad_lw 0), .ref (ad_lw 1), .ref (ad_lw 2), .ref (ad_lw 3), .ref (ad_lw 4), .ref (ad_lw 5), .ref (ad_lw 6), .ref (ad_lw 7), .int (q8.2.1 0), .int (q8.2.1 1), .int (q8.2.1 2)]) rfl rfl 9 (by decide) (hts _ kF_1_67) (fun _ h9 => h9) rfl (by decide +kernel) (rfl) (rfl) (Nat.le_of_ble_eq_true rfl) d_Lw_cut_79 (fun H locs hP hD hS => ?_)
      rw [sr_Pl, sl_Lw_0, wu_Lw_s1] at hP hD
      obtain ⟨lw9, hlw9, hf⟩ := op_b hf
      have hP : va_P (dC, dI) vwCl (w_Pl_ h_pl ad_pl tC pl ++ (w_Lw_ h_lw ad_lw tC lw9 ++ w_Sf_ h_sf ad_sf tC sf)) H := by rw [← Option.some.inj hlw9]; exact hP
      have hD : va_D A (w_Pl_ h_pl ad_pl tC pl ++ (w_Lw_ h_lw ad_lw tC lw9 ++ w_Sf_ h_sf ad_sf tC sf)) := by rw [← Option.some.inj hlw9]; exact hD
      refine lv_aload_n hx hb d_Lw_cut_82 rfl (lv_at hl 1 rfl) ?_
      refine lv_iconst (v := 0) hx hb d_Lw_cut_83 (by decide) ?_
      refine va_put (D := (dC, dI)) (ci := 1) (v := .int 0) (ty := .int) (C := RX1) (T := TX1) (N := 11) hx hb hts in_X1 tyX1 tyX1_ok nmX1 hown hK hP hD hS 8 (fs := [.ref (ad_lw 0), .ref (ad_lw 1), .ref (ad_lw 2), .ref (ad_lw 3), .ref (ad_lw 4), .ref (ad_lw 5), .ref (ad_lw 6), .ref (ad_lw 7), .int (lw9.1 0), .int (lw9.1 1), .int (lw9.1 2)]) rfl rfl 10 (by decide) (hts _ kF_1_70) (fun _ h9 => h9) rfl (by decide +kernel) (rfl) (rfl) (Nat.le_of_ble_eq_true rfl) d_Lw_cut_84 (fun H locs hP hD hS => ?_)
      rw [sr_Pl, sl_Lw_0, wu_Lw_s2] at hP hD
      obtain ⟨lw10, hlw10, hf⟩ := op_b hf
      have hP : va_P (dC, dI) vwCl (w_Pl_ h_pl ad_pl tC pl ++ (w_Lw_ h_lw ad_lw tC lw10 ++ w_Sf_ h_sf ad_sf tC sf)) H := by rw [← Option.some.inj hlw10]; exact hP
      have hD : va_D A (w_Pl_ h_pl ad_pl tC pl ++ (w_Lw_ h_lw ad_lw tC lw10 ++ w_Sf_ h_sf ad_sf tC sf)) := by rw [← Option.some.inj hlw10]; exact hD
      refine lv_aload_n hx hb d_Lw_cut_87 rfl (lv_at hl 1 rfl) ?_
      refine lv_iconst (v := 0) hx hb d_Lw_cut_88 (by decide) ?_
      refine lv_iconst (v := 1) hx hb d_Lw_cut_89 (by decide) ?_
      refine lv_iload hx hb d_Lw_cut_90 (lv_at hl 0 rfl) ?_
      refine lv_ishl hx hb d_Lw_cut_92 ?_
      refine lv_iconst (v := 1) hx hb d_Lw_cut_93 (by decide) ?_
      refine lv_isub hx hb d_Lw_cut_94 ?_
      refine lv_iconst (v := 0) hx hb d_Lw_cut_95 (by decide) ?_
      obtain ⟨q11, hq11, hf⟩ := op_b hf
      have hPc := hP.sub (ws' := (w_Lw_ h_lw ad_lw tC lw10)) [8, 9, 10, 11, 12, 13, 14, 15, 16] rfl
      have hDc := hD.sub (ws' := (w_Lw_ h_lw ad_lw tC lw10)) [8, 9, 10, 11, 12, 13, 14, 15, 16] (by decide) rfl
      have hFc := va_free (wc := (w_Lw_ h_lw ad_lw tC lw10)) hD hS hA [8, 9, 10, 11, 12, 13, 14, 15, 16] rfl
      refine wr_go (va_runV (As := [.int 0, .int ((1 <<< (v1 &&& 31)) - 1), .int 0]) (rest := []) ⟨hx, hb, hml, hown, hts⟩ (m_Lw_search l dC dI tC 12 h_lw ad_lw lw10 0 ((1 <<< (v1 &&& 31)) - 1) 0 q11 hq11 _) (cwV 3 hts (gd_V kM_1_73 kI_Lw_search kV_Lw_search kZ_1 kC_Lw_search) rfl rfl rfl (by decide +kernel) ⟨(Nat.le_of_ble_eq_true rfl), (Nat.le_of_ble_eq_true rfl)⟩) ⟨wr_blind, va_recv hK hP (ci := 1) (q0 := 8) rfl rfl, wr_pre hK hPc hDc⟩ rfl rfl hl.1 rfl (lv_room (Nat.le_of_ble_eq_true rfl)) d_Lw_cut_96 ⟨(Nat.le_of_ble_eq_true rfl), (Nat.le_of_ble_eq_true rfl)⟩) hS hFc (fun r w1 H1 locs hw hP1 hD1 hk1 hS => ?_)
      obtain ⟨rfl, rfl⟩ := hw
      obtain ⟨hP, hD⟩ := jn_S hP hD [8, 9, 10, 11, 12, 13, 14, 15, 16] (wc := (w_Lw_ h_lw ad_lw tC lw10)) rfl hk1 hP1 rfl
      clear hP1 hD1 hk1 hPc hDc hFc
      have hP : va_P (dC, dI) vwCl (w_Pl_ h_pl ad_pl tC pl ++ (w_Lw_ h_lw ad_lw tC q11.2 ++ w_Sf_ h_sf ad_sf tC sf)) _ := hP
      have hD : va_D A (w_Pl_ h_pl ad_pl tC pl ++ (w_Lw_ h_lw ad_lw tC q11.2 ++ w_Sf_ h_sf ad_sf tC sf)) := hD
      refine W.eq (g2 := F0 m 99 ls []) rfl ?_
      refine lv_aload_n hx hb d_Lw_cut_99 rfl (lv_at hl 1 rfl) ?_
      refine va_get (D := (dC, dI)) (ci := 1) (v := .int (q11.2.1 1)) (C := RX1) (T := TX1) (N := 11) hx hb hts in_X1 hown hK hP 8 rfl rfl 9 (by decide) (hts _ kF_1_67) (fun _ h9 => h9) rfl d_Lw_cut_100 ?_
      refine lv_ldc (v := 268435456) hx hb hown (hts _ kK_1_66) d_Lw_cut_103 ?_
      refine lv_icmp_ne (tgt := 110) hx hb d_Lw_cut_105 (by decide) (fun c12 => ?_) (fun c12 => ?_)
      · have hf := op_e hf c12
        refine lv_aload_n hx hb d_Lw_cut_110 rfl (lv_at hl 1 rfl) ?_
        refine lv_aload_n hx hb d_Lw_cut_111 rfl (lv_at hl 2 rfl) ?_
        refine lv_iload_n hx hb d_Lw_cut_112 rfl (lv_at hl 3 rfl) ?_
        refine lv_iload_n hx hb d_Lw_cut_113 rfl (lv_at hl 4 rfl) ?_
        obtain ⟨q13, hq13, hf⟩ := op_b hf
        have hPc := hP.sub (ws' := (w_Lw_ h_lw ad_lw tC q11.2 ++ w_Pl_ h_pl ad_pl tC pl)) [8, 9, 10, 11, 12, 13, 14, 15, 16, 0, 1, 2, 3, 4, 5, 6, 7] rfl
        have hDc := hD.sub (ws' := (w_Lw_ h_lw ad_lw tC q11.2 ++ w_Pl_ h_pl ad_pl tC pl)) [8, 9, 10, 11, 12, 13, 14, 15, 16, 0, 1, 2, 3, 4, 5, 6, 7] (by decide) rfl
        have hFc := va_free (wc := (w_Lw_ h_lw ad_lw tC q11.2 ++ w_Pl_ h_pl ad_pl tC pl)) hD hS hA [8, 9, 10, 11, 12, 13, 14, 15, 16, 0, 1, 2, 3, 4, 5, 6, 7] rfl
        refine wr_go (va_runV (As := [.ref h_pl, .int p2, .int p3]) (rest := []) ⟨hx, hb, hml, hown, hts⟩ (m_Lw_writeBest l dC dI tC h_lw ad_lw q11.2 h_pl ad_pl pl p2 p3 q13 hq13 _) (cwV 3 hts (gd_V kM_1_77 kI_Lw_writeBest kV_Lw_writeBest kZ_1 kC_Lw_writeBest) rfl rfl rfl (by decide +kernel) ⟨(Nat.le_of_ble_eq_true rfl), (Nat.le_of_ble_eq_true rfl)⟩) ⟨wr_blind, va_recv hK hP (ci := 1) (q0 := 8) rfl rfl, wr_pre hK hPc hDc⟩ rfl rfl hl.1 rfl (lv_room (Nat.le_of_ble_eq_true rfl)) d_Lw_cut_114 ⟨(Nat.le_of_ble_eq_true rfl), (Nat.le_of_ble_eq_true rfl)⟩) hS hFc (fun r w1 H1 locs hw hP1 hD1 hk1 hS => ?_)
        obtain ⟨rfl, rfl⟩ := hw
        obtain ⟨hP, hD⟩ := jn_S hP hD [8, 9, 10, 11, 12, 13, 14, 15, 16, 0, 1, 2, 3, 4, 5, 6, 7] (wc := (w_Lw_ h_lw ad_lw tC q11.2 ++ w_Pl_ h_pl ad_pl tC pl)) rfl hk1 hP1 rfl
        clear hP1 hD1 hk1 hPc hDc hFc
        have hP : va_P (dC, dI) vwCl (w_Pl_ h_pl ad_pl tC q13.2 ++ (w_Lw_ h_lw ad_lw tC q11.2 ++ w_Sf_ h_sf ad_sf tC sf)) _ := hP
        have hD : va_D A (w_Pl_ h_pl ad_pl tC q13.2 ++ (w_Lw_ h_lw ad_lw tC q11.2 ++ w_Sf_ h_sf ad_sf tC sf)) := hD
        refine W.eq (g2 := F0 m 117 ls [.int q13.1]) rfl ?_
        obtain ⟨hn14, hf⟩ := op_if hf
        obtain rfl := Option.some.inj hf
        subst hQ
        subst hAe
        exact W.zret (v := q13.1) (ty := .boolean) hx hb hr (nb_z hn14) (fun t ht hW => ⟨⟨_, _, rfl, ⟨rfl, rfl⟩, by rw [ht]; exact hP, hD⟩, hS.F ht⟩) hS.2.2 d_Lw_cut_117
      · have hf := op_t hf c12
        refine lv_iconst (v := 0) hx hb d_Lw_cut_108 (by decide) ?_
        obtain rfl := Option.some.inj hf
        subst hQ
        subst hAe
        exact W.zret (v := 0) (ty := .boolean) hx hb hr (by decide) (fun t ht hW => ⟨⟨_, _, rfl, ⟨rfl, rfl⟩, by rw [ht]; exact hP, hD⟩, hS.F ht⟩) hS.2.2 d_Lw_cut_109
    · have hf := op_e hf c3
      refine lv_iconst (v := 0) hx hb d_Lw_cut_21 (by decide) ?_
      obtain rfl := Option.some.inj hf
      subst hQ
      subst hAe
      exact W.zret (v := 0) (ty := .boolean) hx hb hr (by decide) (fun t ht hW => ⟨⟨_, _, rfl, ⟨rfl, rfl⟩, by rw [ht]; exact hP, hD⟩, hS.F ht⟩) hS.2.2 d_Lw_cut_22
