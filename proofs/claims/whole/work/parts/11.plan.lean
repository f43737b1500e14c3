def f_Pl_clear (pl : MS) : Option (Unit × MS) := (some (sI pl 0 0)).bind fun pl1 => (some (sI pl1 1 0)).bind fun pl2 => (some (sI pl2 2 0)).bind fun pl3 => (some (sI pl3 3 0)).bind fun pl4 => (some (sI pl4 4 0)).bind fun pl5 => some ((), pl5)
def rm_Pl_clear : Room := { frames := 0, cells := 0, slots := 0, locals := 0 }
set_option maxHeartbeats 4000000 in
set_option maxRecDepth 100000 in
theorem m_Pl_clear (l : Launch) (dC : Nat → ClassId) (dI : Nat → Nat → Nat) (tC : Nat → ClassId) (h_pl : Nat) (ad_pl : Nat → Nat) (pl : MS) (R : Unit × MS) (hf : f_Pl_clear pl = some R) (sz : Nat) : Met l y_Pl_clear w_Pl_clear rm_Pl_clear (wrP (dC, dI) tC (w_Pl_ h_pl ad_pl tC pl) sz [.ref h_pl]) (wrQ (dC, dI) (w_Pl_ h_pl ad_pl tC pl) sz (fun r w => r = none ∧ w = (w_Pl_ h_pl ad_pl tC R.2))) 0 0 (va_A (w_Pl_ h_pl ad_pl tC pl) sz) := by
  refine Met.ofW (cc := c_Pl_clear) (maxL := 1) (ret := none) (by decide) rfl ?_
  intro p e s m args below meth c s₁ B hml hv
  obtain ⟨hav, hsz, hP, hK, hD0⟩ := hv
  have hx := B.exec
  have hb := B.bytes
  have hr := B.returns
  have hts : ∀ w ∈ gw, w.before args s = true := fun w h => atoms_spec (ws := w_Pl_clear) B.pre w (List.mem_cons_of_mem _ h)
  have hown : s.vm.findClass RX3 = some m.cls := findClass_of_methodNamed B.named
  have hlocks := B.notSynchronized
  subst hsz
  have hD := hD0.self (sz := s.heap.size)
  obtain ⟨A, hAe⟩ : ∃ z, z = va_A (w_Pl_ h_pl ad_pl tC pl) s.heap.size := ⟨_, rfl⟩
  rw [← hAe] at hD
  have hA : ∀ q : Nat, s.heap.size ≤ q → A q := fun q h => by rw [hAe]; exact Or.inr h
  have hS : va_S A s.heap s.heap [] := va_S.rf
  refine q_w (R := rm_Pl_clear) (fun Q hQ => ?_)
  refine en_w (av := [.ref h_pl]) hav (Nat.le_of_ble_eq_true rfl) (fun ls hl => ?_)
  have hl : lv_has ls 1 [(0, .ref h_pl)] := hl
  unfold f_Pl_clear at hf
  refine lv_aload_n hx hb d_Pl_clear_0 rfl (lv_at hl 0 rfl) ?_
  refine lv_iconst (v := 0) hx hb d_Pl_clear_1 (by decide) ?_
  refine va_put (D := (dC, dI)) (ci := 3) (v := .int 0) (ty := .int) (C := RX3) (T := TX3) (N := 12) hx hb hts in_X3 tyX3 tyX3_ok nmX3 hown hK hP hD hS 0 (fs := [.ref (ad_pl 0), .ref (ad_pl 1), .ref (ad_pl 2), .ref (ad_pl 3), .ref (ad_pl 4), .ref (ad_pl 5), .ref (ad_pl 6), .int (pl.1 0), .int (pl.1 1), .int (pl.1 2), .int (pl.1 3), .int (pl.1 4)]) rfl rfl 7 (by decide) (hts _ kF_3_33) (fun _ h9 => h9) rfl (by decide +kernel) (rfl) (rfl) (Nat.le_of_ble_eq_true rfl) d_Pl_clear_2 (fun H locs hP hD hS => ?_)
  rw [wu_Pl_s0] at hP hD
  obtain ⟨pl1, hpl1, hf⟩ := op_b hf
  have hP : va_P (dC, dI) vwCl (w_Pl_ h_pl ad_pl tC pl1) H := by rw [← Option.some.inj hpl1]; exact hP
  have hD : va_D A (w_Pl_ h_pl ad_pl tC pl1) := by rw [← Option.some.inj hpl1]; exact hD
  refine lv_aload_n hx hb d_Pl_clear_5 rfl (lv_at hl 0 rfl) ?_
  refine lv_iconst (v := 0) hx hb d_Pl_clear_6 (by decide) ?_
  refine va_put (D := (dC, dI)) (ci := 3) (v := .int 0) (ty := .int) (C := RX3) (T := TX3) (N := 12) hx hb hts in_X3 tyX3 tyX3_ok nmX3 hown hK hP hD hS 0 (fs := [.ref (ad_pl 0), .ref (ad_pl 1), .ref (ad_pl 2), .ref (ad_pl 3), .ref (ad_pl 4), .ref (ad_pl 5), .ref (ad_pl 6), .int (pl1.1 0), .int (pl1.1 1), .int (pl1.1 2), .int (pl1.1 3), .int (pl1.1 4)]) rfl rfl 8 (by decide) (hts _ kF_3_37) (fun _ h9 => h9) rfl (by decide +kernel) (rfl) (rfl) (Nat.le_of_ble_eq_true rfl) d_Pl_clear_7 (fun H locs hP hD hS => ?_)
  rw [wu_Pl_s1] at hP hD
  obtain ⟨pl2, hpl2, hf⟩ := op_b hf
  have hP : va_P (dC, dI) vwCl (w_Pl_ h_pl ad_pl tC pl2) H := by rw [← Option.some.inj hpl2]; exact hP
  have hD : va_D A (w_Pl_ h_pl ad_pl tC pl2) := by rw [← Option.some.inj hpl2]; exact hD
  refine lv_aload_n hx hb d_Pl_clear_10 rfl (lv_at hl 0 rfl) ?_
  refine lv_iconst (v := 0) hx hb d_Pl_clear_11 (by decide) ?_
  refine va_put (D := (dC, dI)) (ci := 3) (v := .int 0) (ty := .int) (C := RX3) (T := TX3) (N := 12) hx hb hts in_X3 tyX3 tyX3_ok nmX3 hown hK hP hD hS 0 (fs := [.ref (ad_pl 0), .ref (ad_pl 1), .ref (ad_pl 2), .ref (ad_pl 3), .ref (ad_pl 4), .ref (ad_pl 5), .ref (ad_pl 6), .int (pl2.1 0), .int (pl2.1 1), .int (pl2.1 2), .int (pl2.1 3), .int (pl2.1 4)]) rfl rfl 9 (by decide) (hts _ kF_3_40) (fun _ h9 => h9) rfl (by decide +kernel) (rfl) (rfl) (Nat.le_of_ble_eq_true rfl) d_Pl_clear_12 (fun H locs hP hD hS => ?_)
  rw [wu_Pl_s2] at hP hD
  obtain ⟨pl3, hpl3, hf⟩ := op_b hf
  have hP : va_P (dC, dI) vwCl (w_Pl_ h_pl ad_pl tC pl3) H := by rw [← Option.some.inj hpl3]; exact hP
  have hD : va_D A (w_Pl_ h_pl ad_pl tC pl3) := by rw [← Option.some.inj hpl3]; exact hD
  refine lv_aload_n hx hb d_Pl_clear_15 rfl (lv_at hl 0 rfl) ?_
  refine lv_iconst (v := 0) hx hb d_Pl_clear_16 (by decide) ?_
  refine va_put (D := (dC, dI)) (ci := 3) (v := .int 0) (ty := .int) (C := RX3) (T := TX3) (N := 12) hx hb hts in_X3 tyX3 tyX3_ok nmX3 hown hK hP hD hS 0 (fs := [.ref (ad_pl 0), .ref (ad_pl 1), .ref (ad_pl 2), .ref (ad_pl 3), .ref (ad_pl 4), .ref (ad_pl 5), .ref (ad_pl 6), .int (pl3.1 0), .int (pl3.1 1), .int (pl3.1 2), .int (pl3.1 3), .int (pl3.1 4)]) rfl rfl 10 (by decide) (hts _ kF_3_43) (fun _ h9 => h9) rfl (by decide +kernel) (rfl) (rfl) (Nat.le_of_ble_eq_true rfl) d_Pl_clear_17 (fun H locs hP hD hS => ?_)
  rw [wu_Pl_s3] at hP hD
  obtain ⟨pl4, hpl4, hf⟩ := op_b hf
  have hP : va_P (dC, dI) vwCl (w_Pl_ h_pl ad_pl tC pl4) H := by rw [← Option.some.inj hpl4]; exact hP
  have hD : va_D A (w_Pl_ h_pl ad_pl tC pl4) := by rw [← Option.some.inj hpl4]; exact hD
  refine lv_aload_n hx hb d_Pl_clear_20 rfl (lv_at hl 0 rfl) ?_
  refine lv_iconst (v := 0) hx hb d_Pl_clear_21 (by decide) ?_
  refine va_put (D := (dC, dI)) (ci := 3) (v := .int 0) (ty := .boolean) (C := RX3) (T := TX3) (N := 12) hx hb hts in_X3 tyX3 tyX3_ok nmX3 hown hK hP hD hS 0 (fs := [.ref (ad_pl 0), .ref (ad_pl 1), .ref (ad_pl 2), .ref (ad_pl 3), .ref (ad_pl 4), .ref (ad_pl 5), .ref (ad_pl 6), .int (pl4.1 0), .int (pl4.1 1), .int (pl4.1 2), .int (pl4.1 3), .int (pl4.1 4)]) rfl rfl 11 (by decide) (hts _ kF_3_46) (fun _ h9 => h9) rfl (by decide +kernel) (by decide) (by decide) (Nat.le_of_ble_eq_true rfl) d_Pl_clear_22 (fun H locs hP hD hS => ?_)
  rw [wu_Pl_s4] at hP hD
  obtain ⟨pl5, hpl5, hf⟩ := op_b hf
  have hP : va_P (dC, dI) vwCl (w_Pl_ h_pl ad_pl tC pl5) H := by rw [← Option.some.inj hpl5]; exact hP
  have hD : va_D A (w_Pl_ h_pl ad_pl tC pl5) := by rw [← Option.some.inj hpl5]; exact hD
  obtain rfl := Option.some.inj hf
  subst hQ
  subst hAe
  exact W.vret hx hb hr (fun t ht hW => ⟨⟨_, _, rfl, ⟨rfl, rfl⟩, by rw [ht]; exact hP, hD⟩, hS.F ht⟩) hS.2.2 d_Pl_clear_25
def l_Pl_addPiece_16 : Nat → Int32 → Int32 → Int32 → Int32 → MS → Option (Int32 × MS)
  | 0, _, _, _, _, _ => none
  | n + 1, x1, x2, x3, x4, pl => (if x4 ≤ x1 then some (x4, pl) else if ix (x4 - 1) 60 then (if x3 ≤ ((pl.2.1 1) (x4 - 1).toNatClampNeg) then some (x4, pl) else if ix (x4 - 1) 60 then if ix x4 60 then (some (sA pl 0 (upd (pl.2.1 0) x4.toNatClampNeg ((pl.2.1 0) (x4 - 1).toNatClampNeg)))).bind fun pl9 => if ix (x4 - 1) 60 then if ix x4 60 then (some (sA pl9 1 (upd (pl9.2.1 1) x4.toNatClampNeg ((pl9.2.1 1) (x4 - 1).toNatClampNeg)))).bind fun pl12 => l_Pl_addPiece_16 n x1 x2 x3 (x4 + (-1)) pl12 else none else none else none else none) else none)
def f_Pl_addPiece (pl : MS) (p1 : Int32) (p2 : Int32) (p3 : Int32) : Option (Unit × MS) := (if (pl.1 0) < 60 then (some (pl.1 0) : Option Int32).bind fun v2 => (l_Pl_addPiece_16 fu p1 p2 p3 v2 pl).bind fun q3 => if ix q3.1 60 then (some (sA q3.2 0 (upd (q3.2.2.1 0) q3.1.toNatClampNeg p2))).bind fun pl14 => if ix q3.1 60 then (some (sA pl14 1 (upd (pl14.2.1 1) q3.1.toNatClampNeg p3))).bind fun pl16 => (some (sI pl16 0 ((pl16.1 0) + 1))).bind fun pl17 => some ((), pl17) else none else none else some ((), pl))
def rm_Pl_addPiece : Room := { frames := 0, cells := 0, slots := 0, locals := 0 }
set_option maxHeartbeats 4000000 in
set_option maxRecDepth 100000 in
theorem m_Pl_addPiece (l : Launch) (dC : Nat → ClassId) (dI : Nat → Nat → Nat) (tC : Nat → ClassId) (h_pl : Nat) (ad_pl : Nat → Nat) (pl : MS) (p1 : Int32) (p2 : Int32) (p3 : Int32) (R : Unit × MS) (hf : f_Pl_addPiece pl p1 p2 p3 = some R) (sz : Nat) : Met l y_Pl_addPiece w_Pl_addPiece rm_Pl_addPiece (wrP (dC, dI) tC (w_Pl_ h_pl ad_pl tC pl) sz [.ref h_pl, .int p1, .int p2, .int p3]) (wrQ (dC, dI) (w_Pl_ h_pl ad_pl tC pl) sz (fun r w => r = none ∧ w = (w_Pl_ h_pl ad_pl tC R.2))) 0 0 (va_A (w_Pl_ h_pl ad_pl tC pl) sz) := by
  refine Met.ofW (cc := c_Pl_addPiece) (maxL := 5) (ret := none) (by decide) rfl ?_
  intro p e s m args below meth c s₁ B hml hv
  obtain ⟨hav, hsz, hP, hK, hD0⟩ := hv
  have hx := B.exec
  have hb := B.bytes
  have hr := B.returns
  have hts : ∀ w ∈ gw, w.before args s = true := fun w h => atoms_spec (ws := w_Pl_addPiece) B.pre w (List.mem_cons_of_mem _ h)
  have hown : s.vm.findClass RX3 = some m.cls := findClass_of_methodNamed B.named
  have hlocks := B.notSynchronized
  subst hsz
  have hD := hD0.self (sz := s.heap.size)
  obtain ⟨A, hAe⟩ : ∃ z, z = va_A (w_Pl_ h_pl ad_pl tC pl) s.heap.size := ⟨_, rfl⟩
  rw [← hAe] at hD
  have hA : ∀ q : Nat, s.heap.size ≤ q → A q := fun q h => by rw [hAe]; exact Or.inr h
  have hS : va_S A s.heap s.heap [] := va_S.rf
  refine q_w (R := rm_Pl_addPiece) (fun Q hQ => ?_)
  refine en_w (av := [.ref h_pl, .int p1, .int p2, .int p3]) hav (Nat.le_of_ble_eq_true rfl) (fun ls hl => ?_)
  have hl : lv_has ls 5 [(0, .ref h_pl), (1, .int p1), (2, .int p2), (3, .int p3)] := hl
  unfold f_Pl_addPiece at hf
  refine lv_aload_n hx hb d_Pl_addPiece_0 rfl (lv_at hl 0 rfl) ?_
  refine va_get (D := (dC, dI)) (ci := 3) (v := .int (pl.1 0)) (C := RX3) (T := TX3) (N := 12) hx hb hts in_X3 hown hK hP 0 rfl rfl 7 (by decide) (hts _ kF_3_33) (fun _ h9 => h9) rfl d_Pl_addPiece_1 ?_
  refine lv_bipush (v := 60) hx hb d_Pl_addPiece_4 (by decide) ?_
  refine lv_icmp_lt (tgt := 10) hx hb d_Pl_addPiece_6 (by decide) (fun c1 => ?_) (fun c1 => ?_)
  · have hf := op_t hf c1
    refine lv_aload_n hx hb d_Pl_addPiece_10 rfl (lv_at hl 0 rfl) ?_
    refine va_get (D := (dC, dI)) (ci := 3) (v := .int (pl.1 0)) (C := RX3) (T := TX3) (N := 12) hx hb hts in_X3 hown hK hP 0 rfl rfl 7 (by decide) (hts _ kF_3_33) (fun _ h9 => h9) rfl d_Pl_addPiece_11 ?_
    obtain ⟨v2, hv2, hf⟩ := op_b hf
    refine rw_i (y := v2) (Option.some.inj hv2) ?_
    refine lv_istore (lv' := [(4, .int v2), (0, .ref h_pl), (1, .int p1), (2, .int p2), (3, .int p3)]) hx hb d_Pl_addPiece_14 hl (by decide) rfl (fun ls hl => ?_)
    have lp_16 : ∀ (n : Nat) (x1 : Int32) (x2 : Int32) (x3 : Int32) (x4 : Int32) (pl : MS) (Rl : Int32 × MS), l_Pl_addPiece_16 n x1 x2 x3 x4 pl = some Rl → ∀ (H : Heap) (locs : List Loc), va_P (dC, dI) vwCl (w_Pl_ h_pl ad_pl tC pl) H → va_D A (w_Pl_ h_pl ad_pl tC pl) → va_S A s.heap H locs → ∀ ls : Array Slot, lv_has ls 5 [(4, .int x4), (0, .ref h_pl), (1, .int x1), (2, .int x2), (3, .int x3)] → (∀ (H : Heap) (locs : List Loc), va_P (dC, dI) vwCl (w_Pl_ h_pl ad_pl tC Rl.2) H → va_D A (w_Pl_ h_pl ad_pl tC Rl.2) → va_S A s.heap H locs → ∀ ls : Array Slot, lv_has ls 5 [(4, .int Rl.1), (0, .ref h_pl), (1, .int x1), (2, .int x2), (3, .int x3)] → W p l e rm_Pl_addPiece s m args below meth c H locs 0 0 Q (F0 m 73 ls [])) → W p l e rm_Pl_addPiece s m args below meth c H locs 0 0 Q (F0 m 16 ls []) := by
      intro n
      induction n with
      | zero => intro x1 x2 x3 x4 pl Rl hf; cases hf
      | succ n ih_16 =>
        intro x1 x2 x3 x4 pl Rl hf H locs hP hD hS ls hl Kk
        rw [l_Pl_addPiece_16] at hf
        refine lv_iload hx hb d_Pl_addPiece_16 (lv_at hl 0 rfl) ?_
        refine lv_iload_n hx hb d_Pl_addPiece_18 rfl (lv_at hl 2 rfl) ?_
        refine lv_icmp_le (tgt := 73) hx hb d_Pl_addPiece_19 (by decide) (fun c4 => ?_) (fun c4 => ?_)
        · have hf := op_t hf c4
          obtain rfl := Option.some.inj hf
          exact Kk _ _ hP hD hS _ (lv_sub hl [0, 1, 2, 3, 4] rfl)
        · have hf := op_e hf c4
          refine lv_aload_n hx hb d_Pl_addPiece_22 rfl (lv_at hl 1 rfl) ?_
          refine va_get (D := (dC, dI)) (ci := 3) (v := .ref (ad_pl 1)) (C := RX3) (T := TX3) (N := 12) hx hb hts in_X3 hown hK hP 0 rfl rfl 1 (by decide) (hts _ kF_3_15) (fun _ h9 => h9) rfl d_Pl_addPiece_23 ?_
          refine lv_iload hx hb d_Pl_addPiece_26 (lv_at hl 0 rfl) ?_
          refine lv_iconst (v := 1) hx hb d_Pl_addPiece_28 (by decide) ?_
          refine lv_isub hx hb d_Pl_addPiece_29 ?_
          obtain ⟨hi5, hf⟩ := op_if hf
          refine va_iald (f := pl.2.1 1) hx hb hK hP 2 0 rfl rfl (ix_in hi5) d_Pl_addPiece_30 ?_
          refine lv_iload_n hx hb d_Pl_addPiece_31 rfl (lv_at hl 4 rfl) ?_
          refine lv_icmp_ge (tgt := 73) hx hb d_Pl_addPiece_32 (by decide) (fun c6 => ?_) (fun c6 => ?_)
          · have hf := op_t hf c6
            obtain rfl := Option.some.inj hf
            exact Kk _ _ hP hD hS _ (lv_sub hl [0, 1, 2, 3, 4] rfl)
          · have hf := op_e hf c6
            refine lv_aload_n hx hb d_Pl_addPiece_35 rfl (lv_at hl 1 rfl) ?_
            refine va_get (D := (dC, dI)) (ci := 3) (v := .ref (ad_pl 0)) (C := RX3) (T := TX3) (N := 12) hx hb hts in_X3 hown hK hP 0 rfl rfl 0 (by decide) (hts _ kF_3_9) (fun _ h9 => h9) rfl d_Pl_addPiece_36 ?_
            refine lv_iload hx hb d_Pl_addPiece_39 (lv_at hl 0 rfl) ?_
            refine lv_aload_n hx hb d_Pl_addPiece_41 rfl (lv_at hl 1 rfl) ?_
            refine va_get (D := (dC, dI)) (ci := 3) (v := .ref (ad_pl 0)) (C := RX3) (T := TX3) (N := 12) hx hb hts in_X3 hown hK hP 0 rfl rfl 0 (by decide) (hts _ kF_3_9) (fun _ h9 => h9) rfl d_Pl_addPiece_42 ?_
            refine lv_iload hx hb d_Pl_addPiece_45 (lv_at hl 0 rfl) ?_
            refine lv_iconst (v := 1) hx hb d_Pl_addPiece_47 (by decide) ?_
            refine lv_isub hx hb d_Pl_addPiece_48 ?_
            obtain ⟨hi7, hf⟩ := op_if hf
            refine va_iald (f := pl.2.1 0) hx hb hK hP 1 0 rfl rfl (ix_in hi7) d_Pl_addPiece_49 ?_
            obtain ⟨hi8, hf⟩ := op_if hf
            refine va_iast (f := pl.2.1 0) hx hb hK hP hD hS 1 0 rfl rfl (ix_in hi8) d_Pl_addPiece_50 (fun H locs hP hD hS => ?_)
            rw [wu_Pl_a0] at hP hD
            obtain ⟨pl9, hpl9, hf⟩ := op_b hf
            have hP : va_P (dC, dI) vwCl (w_Pl_ h_pl ad_pl tC pl9) H := by rw [← Option.some.inj hpl9]; exact hP
            have hD : va_D A (w_Pl_ h_pl ad_pl tC pl9) := by rw [← Option.some.inj hpl9]; exact hD
            refine lv_aload_n hx hb d_Pl_addPiece_51 rfl (lv_at hl 1 rfl) ?_
            refine va_get (D := (dC, dI)) (ci := 3) (v := .ref (ad_pl 1)) (C := RX3) (T := TX3) (N := 12) hx hb hts in_X3 hown hK hP 0 rfl rfl 1 (by decide) (hts _ kF_3_15) (fun _ h9 => h9) rfl d_Pl_addPiece_52 ?_
            refine lv_iload hx hb d_Pl_addPiece_55 (lv_at hl 0 rfl) ?_
            refine lv_aload_n hx hb d_Pl_addPiece_57 rfl (lv_at hl 1 rfl) ?_
            refine va_get (D := (dC, dI)) (ci := 3) (v := .ref (ad_pl 1)) (C := RX3) (T := TX3) (N := 12) hx hb hts in_X3 hown hK hP 0 rfl rfl 1 (by decide) (hts _ kF_3_15) (fun _ h9 => h9) rfl d_Pl_addPiece_58 ?_
            refine lv_iload hx hb d_Pl_addPiece_61 (lv_at hl 0 rfl) ?_
            refine lv_iconst (v := 1) hx hb d_Pl_addPiece_63 (by decide) ?_
            refine lv_isub hx hb d_Pl_addPiece_64 ?_
            obtain ⟨hi10, hf⟩ := op_if hf
            refine va_iald (f := pl9.2.1 1) hx hb hK hP 2 0 rfl rfl (ix_in hi10) d_Pl_addPiece_65 ?_
            obtain ⟨hi11, hf⟩ := op_if hf
            refine va_iast (f := pl9.2.1 1) hx hb hK hP hD hS 2 0 rfl rfl (ix_in hi11) d_Pl_addPiece_66 (fun H locs hP hD hS => ?_)
            rw [wu_Pl_a1] at hP hD
            obtain ⟨pl12, hpl12, hf⟩ := op_b hf
            have hP : va_P (dC, dI) vwCl (w_Pl_ h_pl ad_pl tC pl12) H := by rw [← Option.some.inj hpl12]; exact hP
            have hD : va_D A (w_Pl_ h_pl ad_pl tC pl12) := by rw [← Option.some.inj hpl12]; exact hD
            refine lv_iinc (v := x4 + (-1)) (lv' := [(4, .int (x4 + (-1))), (0, .ref h_pl), (1, .int x1), (2, .int x2), (3, .int x3)]) hx hb d_Pl_addPiece_67 hl (k := 0) rfl rfl (by decide) rfl (fun ls hl => ?_)
            refine lv_goto (tgt := 16) hx hb d_Pl_addPiece_70 (by decide) ?_
            exact ih_16 x1 x2 x3 (x4 + (-1)) pl12 Rl hf _ _ hP hD hS _ (lv_sub hl [0, 1, 2, 3, 4] rfl) Kk
    obtain ⟨q3, hq3, hf⟩ := op_b hf
    refine lp_16 fu p1 p2 p3 v2 pl q3 hq3 _ _ hP hD hS _ (lv_sub hl [0, 1, 2, 3, 4] rfl) ?_
    intro H locs hP hD hS ls hl
    refine lv_aload_n hx hb d_Pl_addPiece_73 rfl (lv_at hl 1 rfl) ?_
    refine va_get (D := (dC, dI)) (ci := 3) (v := .ref (ad_pl 0)) (C := RX3) (T := TX3) (N := 12) hx hb hts in_X3 hown hK hP 0 rfl rfl 0 (by decide) (hts _ kF_3_9) (fun _ h9 => h9) rfl d_Pl_addPiece_74 ?_
    refine lv_iload hx hb d_Pl_addPiece_77 (lv_at hl 0 rfl) ?_
    refine lv_iload_n hx hb d_Pl_addPiece_79 rfl (lv_at hl 3 rfl) ?_
    obtain ⟨hi13, hf⟩ := op_if hf
    refine va_iast (f := q3.2.2.1 0) hx hb hK hP hD hS 1 0 rfl rfl (ix_in hi13) d_Pl_addPiece_80 (fun H locs hP hD hS => ?_)
    rw [wu_Pl_a0] at hP hD
    obtain ⟨pl14, hpl14, hf⟩ := op_b hf
    have hP : va_P (dC, dI) vwCl (w_Pl_ h_pl ad_pl tC pl14) H := by rw [← Option.some.inj hpl14]; exact hP
    have hD : va_D A (w_Pl_ h_pl ad_pl tC pl14) := by rw [← Option.some.inj hpl14]; exact hD
    refine lv_aload_n hx hb d_Pl_addPiece_81 rfl (lv_at hl 1 rfl) ?_
    refine va_get (D := (dC, dI)) (ci := 3) (v := .ref (ad_pl 1)) (C := RX3) (T := TX3) (N := 12) hx hb hts in_X3 hown hK hP 0 rfl rfl 1 (by decide) (hts _ kF_3_15) (fun _ h9 => h9) rfl d_Pl_addPiece_82 ?_
    refine lv_iload hx hb d_Pl_addPiece_85 (lv_at hl 0 rfl) ?_
    refine lv_iload_n hx hb d_Pl_addPiece_87 rfl (lv_at hl 4 rfl) ?_
    obtain ⟨hi15, hf⟩ := op_if hf
    refine va_iast (f := pl14.2.1 1) hx hb hK hP hD hS 2 0 rfl rfl (ix_in hi15) d_Pl_addPiece_88 (fun H locs hP hD hS => ?_)
    rw [wu_Pl_a1] at hP hD
    obtain ⟨pl16, hpl16, hf⟩ := op_b hf
    have hP : va_P (dC, dI) vwCl (w_Pl_ h_pl ad_pl tC pl16) H := by rw [← Option.some.inj hpl16]; exact hP
    have hD : va_D A (w_Pl_ h_pl ad_pl tC pl16) := by rw [← Option.some.inj hpl16]; exact hD
    refine lv_aload_n hx hb d_Pl_addPiece_89 rfl (lv_at hl 1 rfl) ?_
    refine lv_dup hx hb d_Pl_addPiece_90 rfl ?_
    refine va_get (D := (dC, dI)) (ci := 3) (v := .int (pl16.1 0)) (C := RX3) (T := TX3) (N := 12) hx hb hts in_X3 hown hK hP 0 rfl rfl 7 (by decide) (hts _ kF_3_33) (fun _ h9 => h9) rfl d_Pl_addPiece_91 ?_
    refine lv_iconst (v := 1) hx hb d_Pl_addPiece_94 (by decide) ?_
    refine lv_iadd hx hb d_Pl_addPiece_95 ?_
    refine va_put (D := (dC, dI)) (ci := 3) (v := .int ((pl16.1 0) + 1)) (ty := .int) (C := RX3) (T := TX3) (N := 12) hx hb hts in_X3 tyX3 tyX3_ok nmX3 hown hK hP hD hS 0 (fs := [.ref (ad_pl 0), .ref (ad_pl 1), .ref (ad_pl 2), .ref (ad_pl 3), .ref (ad_pl 4), .ref (ad_pl 5), .ref (ad_pl 6), .int (pl16.1 0), .int (pl16.1 1), .int (pl16.1 2), .int (pl16.1 3), .int (pl16.1 4)]) rfl rfl 7 (by decide) (hts _ kF_3_33) (fun _ h9 => h9) rfl (by decide +kernel) (rfl) (rfl) (Nat.le_of_ble_eq_true rfl) d_Pl_addPiece_96 (fun H locs hP hD hS => ?_)
    rw [wu_Pl_s0] at hP hD
    obtain ⟨pl17, hpl17, hf⟩ := op_b hf
    have hP : va_P (dC, dI) vwCl (w_Pl_ h_pl ad_pl tC pl17) H := by rw [← Option.some.inj hpl17]; exact hP
    have hD : va_D A (w_Pl_ h_pl ad_pl tC pl17) := by rw [← Option.some.inj hpl17]; exact hD
    obtain rfl := Option.some.inj hf
    subst hQ
    subst hAe
    exact W.vret hx hb hr (fun t ht hW => ⟨⟨_, _, rfl, ⟨rfl, rfl⟩, by rw [ht]; exact hP, hD⟩, hS.F ht⟩) hS.2.2 d_Pl_addPiece_99
  · have hf := op_e hf c1
    obtain rfl := Option.some.inj hf
    subst hQ
    subst hAe
    exact W.vret hx hb hr (fun t ht hW => ⟨⟨_, _, rfl, ⟨rfl, rfl⟩, by rw [ht]; exact hP, hD⟩, hS.F ht⟩) hS.2.2 d_Pl_addPiece_9
def f_Pl_openBar (pl : MS) (p1 : Int32) (p2 : Int32) : Option (Int32 × MS) := (if (pl.1 1) < 60 then if ix (pl.1 1) 60 then (some (sA pl 3 (upd (pl.2.1 3) (pl.1 1).toNatClampNeg p1))).bind fun pl3 => if ix (pl3.1 1) 60 then (some (sA pl3 4 (upd (pl3.2.1 4) (pl3.1 1).toNatClampNeg p2))).bind fun pl5 => if ix (pl5.1 1) 60 then (some (sA pl5 5 (upd (pl5.2.1 5) (pl5.1 1).toNatClampNeg p2))).bind fun pl7 => if ix (pl7.1 1) 60 then (some (sA pl7 6 (upd (pl7.2.1 6) (pl7.1 1).toNatClampNeg 0))).bind fun pl9 => (some (sI pl9 1 ((pl9.1 1) + 1))).bind fun pl10 => some ((pl10.1 1) - 1, pl10) else none else none else none else none else some ((-2), pl))
def rm_Pl_openBar : Room := { frames := 0, cells := 0, slots := 0, locals := 0 }
set_option maxHeartbeats 4000000 in
set_option maxRecDepth 100000 in
theorem m_Pl_openBar (l : Launch) (dC : Nat → ClassId) (dI : Nat → Nat → Nat) (tC : Nat → ClassId) (h_pl : Nat) (ad_pl : Nat → Nat) (pl : MS) (p1 : Int32) (p2 : Int32) (R : Int32 × MS) (hf : f_Pl_openBar pl p1 p2 = some R) (sz : Nat) : Met l y_Pl_openBar w_Pl_openBar rm_Pl_openBar (wrP (dC, dI) tC (w_Pl_ h_pl ad_pl tC pl) sz [.ref h_pl, .int p1, .int p2]) (wrQ (dC, dI) (w_Pl_ h_pl ad_pl tC pl) sz (fun r w => r = (some (.int R.1)) ∧ w = (w_Pl_ h_pl ad_pl tC R.2))) 0 0 (va_A (w_Pl_ h_pl ad_pl tC pl) sz) := by
  refine Met.ofW (cc := c_Pl_openBar) (maxL := 3) (ret := (some (.int))) (by decide) rfl ?_
  intro p e s m args below meth c s₁ B hml hv
  obtain ⟨hav, hsz, hP, hK, hD0⟩ := hv
  have hx := B.exec
  have hb := B.bytes
  have hr := B.returns
  have hts : ∀ w ∈ gw, w.before args s = true := fun w h => atoms_spec (ws := w_Pl_openBar) B.pre w (List.mem_cons_of_mem _ h)
  have hown : s.vm.findClass RX3 = some m.cls := findClass_of_methodNamed B.named
  have hlocks := B.notSynchronized
  subst hsz
  have hD := hD0.self (sz := s.heap.size)
  obtain ⟨A, hAe⟩ : ∃ z, z = va_A (w_Pl_ h_pl ad_pl tC pl) s.heap.size := ⟨_, rfl⟩
  rw [← hAe] at hD
  have hA : ∀ q : Nat, s.heap.size ≤ q → A q := fun q h => by rw [hAe]; exact Or.inr h
  have hS : va_S A s.heap s.heap [] := va_S.rf
  refine q_w (R := rm_Pl_openBar) (fun Q hQ => ?_)
  refine en_w (av := [.ref h_pl, .int p1, .int p2]) hav (Nat.le_of_ble_eq_true rfl) (fun ls hl => ?_)
  have hl : lv_has ls 3 [(0, .ref h_pl), (1, .int p1), (2, .int p2)] := hl
  unfold f_Pl_openBar at hf
  refine lv_aload_n hx hb d_Pl_openBar_0 rfl (lv_at hl 0 rfl) ?_
  refine va_get (D := (dC, dI)) (ci := 3) (v := .int (pl.1 1)) (C := RX3) (T := TX3) (N := 12) hx hb hts in_X3 hown hK hP 0 rfl rfl 8 (by decide) (hts _ kF_3_37) (fun _ h9 => h9) rfl d_Pl_openBar_1 ?_
  refine lv_bipush (v := 60) hx hb d_Pl_openBar_4 (by decide) ?_
  refine lv_icmp_lt (tgt := 12) hx hb d_Pl_openBar_6 (by decide) (fun c1 => ?_) (fun c1 => ?_)
  · have hf := op_t hf c1
    refine lv_aload_n hx hb d_Pl_openBar_12 rfl (lv_at hl 0 rfl) ?_
    refine va_get (D := (dC, dI)) (ci := 3) (v := .ref (ad_pl 3)) (C := RX3) (T := TX3) (N := 12) hx hb hts in_X3 hown hK hP 0 rfl rfl 3 (by decide) (hts _ kF_3_21) (fun _ h9 => h9) rfl d_Pl_openBar_13 ?_
    refine lv_aload_n hx hb d_Pl_openBar_16 rfl (lv_at hl 0 rfl) ?_
    refine va_get (D := (dC, dI)) (ci := 3) (v := .int (pl.1 1)) (C := RX3) (T := TX3) (N := 12) hx hb hts in_X3 hown hK hP 0 rfl rfl 8 (by decide) (hts _ kF_3_37) (fun _ h9 => h9) rfl d_Pl_openBar_17 ?_
    refine lv_iload_n hx hb d_Pl_openBar_20 rfl (lv_at hl 1 rfl) ?_
    obtain ⟨hi2, hf⟩ := op_if hf
    refine va_iast (f := pl.2.1 3) hx hb hK hP hD hS 4 0 rfl rfl (ix_in hi2) d_Pl_openBar_21 (fun H locs hP hD hS => ?_)
    rw [wu_Pl_a3] at hP hD
    obtain ⟨pl3, hpl3, hf⟩ := op_b hf
    have hP : va_P (dC, dI) vwCl (w_Pl_ h_pl ad_pl tC pl3) H := by rw [← Option.some.inj hpl3]; exact hP
    have hD : va_D A (w_Pl_ h_pl ad_pl tC pl3) := by rw [← Option.some.inj hpl3]; exact hD
    refine lv_aload_n hx hb d_Pl_openBar_22 rfl (lv_at hl 0 rfl) ?_
    refine va_get (D := (dC, dI)) (ci := 3) (v := .ref (ad_pl 4)) (C := RX3) (T := TX3) (N := 12) hx hb hts in_X3 hown hK hP 0 rfl rfl 4 (by decide) (hts _ kF_3_24) (fun _ h9 => h9) rfl d_Pl_openBar_23 ?_
    refine lv_aload_n hx hb d_Pl_openBar_26 rfl (lv_at hl 0 rfl) ?_
    refine va_get (D := (dC, dI)) (ci := 3) (v := .int (pl3.1 1)) (C := RX3) (T := TX3) (N := 12) hx hb hts in_X3 hown hK hP 0 rfl rfl 8 (by decide) (hts _ kF_3_37) (fun _ h9 => h9) rfl d_Pl_openBar_27 ?_
    refine lv_iload_n hx hb d_Pl_openBar_30 rfl (lv_at hl 2 rfl) ?_
    obtain ⟨hi4, hf⟩ := op_if hf
    refine va_iast (f := pl3.2.1 4) hx hb hK hP hD hS 5 0 rfl rfl (ix_in hi4) d_Pl_openBar_31 (fun H locs hP hD hS => ?_)
    rw [wu_Pl_a4] at hP hD
    obtain ⟨pl5, hpl5, hf⟩ := op_b hf
    have hP : va_P (dC, dI) vwCl (w_Pl_ h_pl ad_pl tC pl5) H := by rw [← Option.some.inj hpl5]; exact hP
    have hD : va_D A (w_Pl_ h_pl ad_pl tC pl5) := by rw [← Option.some.inj hpl5]; exact hD
    refine lv_aload_n hx hb d_Pl_openBar_32 rfl (lv_at hl 0 rfl) ?_
    refine va_get (D := (dC, dI)) (ci := 3) (v := .ref (ad_pl 5)) (C := RX3) (T := TX3) (N := 12) hx hb hts in_X3 hown hK hP 0 rfl rfl 5 (by decide) (hts _ kF_3_27) (fun _ h9 => h9) rfl d_Pl_openBar_33 ?_
    refine lv_aload_n hx hb d_Pl_openBar_36 rfl (lv_at hl 0 rfl) ?_
    refine va_get (D := (dC, dI)) (ci := 3) (v := .int (pl5.1 1)) (C := RX3) (T := TX3) (N := 12) hx hb hts in_X3 hown hK hP 0 rfl rfl 8 (by decide) (hts _ kF_3_37) (fun _ h9 => h9) rfl d_Pl_openBar_37 ?_
    refine lv_iload_n hx hb d_Pl_openBar_40 rfl (lv_at hl 2 rfl) ?_
    obtain ⟨hi6, hf⟩ := op_if hf
    refine va_iast (f := pl5.2.1 5) hx hb hK hP hD hS 6 0 rfl rfl (ix_in hi6) d_Pl_openBar_41 (fun H locs hP hD hS => ?_)
    rw [wu_Pl_a5] at hP hD
    obtain ⟨pl7, hpl7, hf⟩ := op_b hf
    have hP : va_P (dC, dI) vwCl (w_Pl_ h_pl ad_pl tC pl7) H := by rw [← Option.some.inj hpl7]; exact hP
    have hD : va_D A (w_Pl_ h_pl ad_pl tC pl7) := by rw [← Option.some.inj hpl7]; exact hD
    refine lv_aload_n hx hb d_Pl_openBar_42 rfl (lv_at hl 0 rfl) ?_
    refine va_get (D := (dC, dI)) (ci := 3) (v := .ref (ad_pl 6)) (C := RX3) (T := TX3) (N := 12) hx hb hts in_X3 hown hK hP 0 rfl rfl 6 (by decide) (hts _ kF_3_30) (fun _ h9 => h9) rfl d_Pl_openBar_43 ?_
    refine lv_aload_n hx hb d_Pl_openBar_46 rfl (lv_at hl 0 rfl) ?_
    refine va_get (D := (dC, dI)) (ci := 3) (v := .int (pl7.1 1)) (C := RX3) (T := TX3) (N := 12) hx hb hts in_X3 hown hK hP 0 rfl rfl 8 (by decide) (hts _ kF_3_37) (fun _ h9 => h9) rfl d_Pl_openBar_47 ?_
    refine lv_iconst (v := 0) hx hb d_Pl_openBar_50 (by decide) ?_
    obtain ⟨hi8, hf⟩ := op_if hf
    refine va_iast (f := pl7.2.1 6) hx hb hK hP hD hS 7 0 rfl rfl (ix_in hi8) d_Pl_openBar_51 (fun H locs hP hD hS => ?_)
    rw [wu_Pl_a6] at hP hD
    obtain ⟨pl9, hpl9, hf⟩ := op_b hf
    have hP : va_P (dC, dI) vwCl (w_Pl_ h_pl ad_pl tC pl9) H := by rw [← Option.some.inj hpl9]; exact hP
    have hD : va_D A (w_Pl_ h_pl ad_pl tC pl9) := by rw [← Option.some.inj hpl9]; exact hD
    refine lv_aload_n hx hb d_Pl_openBar_52 rfl (lv_at hl 0 rfl) ?_
    refine lv_dup hx hb d_Pl_openBar_53 rfl ?_
    refine va_get (D := (dC, dI)) (ci := 3) (v := .int (pl9.1 1)) (C := RX3) (T := TX3) (N := 12) hx hb hts in_X3 hown hK hP 0 rfl rfl 8 (by decide) (hts _ kF_3_37) (fun _ h9 => h9) rfl d_Pl_openBar_54 ?_
    refine lv_iconst (v := 1) hx hb d_Pl_openBar_57 (by decide) ?_
    refine lv_iadd hx hb d_Pl_openBar_58 ?_
    refine va_put (D := (dC, dI)) (ci := 3) (v := .int ((pl9.1 1) + 1)) (ty := .int) (C := RX3) (T := TX3) (N := 12) hx hb hts in_X3 tyX3 tyX3_ok nmX3 hown hK hP hD hS 0 (fs := [.ref (ad_pl 0), .ref (ad_pl 1), .ref (ad_pl 2), .ref (ad_pl 3), .ref (ad_pl 4), .ref (ad_pl 5), .ref (ad_pl 6), .int (pl9.1 0), .int (pl9.1 1), .int (pl9.1 2), .int (pl9.1 3), .int (pl9.1 4)]) rfl rfl 8 (by decide) (hts _ kF_3_37) (fun _ h9 => h9) rfl (by decide +kernel) (rfl) (rfl) (Nat.le_of_ble_eq_true rfl) d_Pl_openBar_59 (fun H locs hP hD hS => ?_)
    rw [wu_Pl_s1] at hP hD
    obtain ⟨pl10, hpl10, hf⟩ := op_b hf
    have hP : va_P (dC, dI) vwCl (w_Pl_ h_pl ad_pl tC pl10) H := by rw [← Option.some.inj hpl10]; exact hP
    have hD : va_D A (w_Pl_ h_pl ad_pl tC pl10) := by rw [← Option.some.inj hpl10]; exact hD
    refine lv_aload_n hx hb d_Pl_openBar_62 rfl (lv_at hl 0 rfl) ?_
    refine va_get (D := (dC, dI)) (ci := 3) (v := .int (pl10.1 1)) (C := RX3) (T := TX3) (N := 12) hx hb hts in_X3 hown hK hP 0 rfl rfl 8 (by decide) (hts _ kF_3_37) (fun _ h9 => h9) rfl d_Pl_openBar_63 ?_
    refine lv_iconst (v := 1) hx hb d_Pl_openBar_66 (by decide) ?_
    refine lv_isub hx hb d_Pl_openBar_67 ?_
    obtain rfl := Option.some.inj hf
    subst hQ
    subst hAe
    exact W.iret (v := (pl10.1 1) - 1) hx hb hr (fun t ht hW => ⟨⟨_, _, rfl, ⟨rfl, rfl⟩, by rw [ht]; exact hP, hD⟩, hS.F ht⟩) hS.2.2 d_Pl_openBar_68
  · have hf := op_e hf c1
    refine lv_bipush (v := (-2)) hx hb d_Pl_openBar_9 (by decide) ?_
    obtain rfl := Option.some.inj hf
    subst hQ
    subst hAe
    exact W.iret (v := (-2)) hx hb hr (fun t ht hW => ⟨⟨_, _, rfl, ⟨rfl, rfl⟩, by rw [ht]; exact hP, hD⟩, hS.F ht⟩) hS.2.2 d_Pl_openBar_11
def f_Pl_putPiece (pl : MS) (p1 : Int32) (p2 : Int32) : Option (Unit × MS) := if ix p1 60 then (some (sA pl 2 (upd (pl.2.1 2) p1.toNatClampNeg p2))).bind fun pl2 => if ix p2 60 then if ix p1 60 then if ix p2 60 then (some (sA pl2 5 (upd (pl2.2.1 5) p2.toNatClampNeg (((pl2.2.1 5) p2.toNatClampNeg) - ((pl2.2.1 1) p1.toNatClampNeg))))).bind fun pl6 => if ix p2 60 then if ix p2 60 then (some (sA pl6 6 (upd (pl6.2.1 6) p2.toNatClampNeg (((pl6.2.1 6) p2.toNatClampNeg) + 1)))).bind fun pl9 => some ((), pl9) else none else none else none else none else none else none
def rm_Pl_putPiece : Room := { frames := 0, cells := 0, slots := 0, locals := 0 }
set_option maxHeartbeats 4000000 in
set_option maxRecDepth 100000 in
theorem m_Pl_putPiece (l : Launch) (dC : Nat → ClassId) (dI : Nat → Nat → Nat) (tC : Nat → ClassId) (h_pl : Nat) (ad_pl : Nat → Nat) (pl : MS) (p1 : Int32) (p2 : Int32) (R : Unit × MS) (hf : f_Pl_putPiece pl p1 p2 = some R) (sz : Nat) : Met l y_Pl_putPiece w_Pl_putPiece rm_Pl_putPiece (wrP (dC, dI) tC (w_Pl_ h_pl ad_pl tC pl) sz [.ref h_pl, .int p1, .int p2]) (wrQ (dC, dI) (w_Pl_ h_pl ad_pl tC pl) sz (fun r w => r = none ∧ w = (w_Pl_ h_pl ad_pl tC R.2))) 0 0 (va_A (w_Pl_ h_pl ad_pl tC pl) sz) := by
  refine Met.ofW (cc := c_Pl_putPiece) (maxL := 3) (ret := none) (by decide) rfl ?_
  intro p e s m args below meth c s₁ B hml hv
  obtain ⟨hav, hsz, hP, hK, hD0⟩ := hv
  have hx := B.exec
  have hb := B.bytes
  have hr := B.returns
  have hts : ∀ w ∈ gw, w.before args s = true := fun w h => atoms_spec (ws := w_Pl_putPiece) B.pre w (List.mem_cons_of_mem _ h)
  have hown : s.vm.findClass RX3 = some m.cls := findClass_of_methodNamed B.named
  have hlocks := B.notSynchronized
  subst hsz
  have hD := hD0.self (sz := s.heap.size)
  obtain ⟨A, hAe⟩ : ∃ z, z = va_A (w_Pl_ h_pl ad_pl tC pl) s.heap.size := ⟨_, rfl⟩
  rw [← hAe] at hD
  have hA : ∀ q : Nat, s.heap.size ≤ q → A q := fun q h => by rw [hAe]; exact Or.inr h
  have hS : va_S A s.heap s.heap [] := va_S.rf
  refine q_w (R := rm_Pl_putPiece) (fun Q hQ => ?_)
  refine en_w (av := [.ref h_pl, .int p1, .int p2]) hav (Nat.le_of_ble_eq_true rfl) (fun ls hl => ?_)
  have hl : lv_has ls 3 [(0, .ref h_pl), (1, .int p1), (2, .int p2)] := hl
  unfold f_Pl_putPiece at hf
  refine lv_aload_n hx hb d_Pl_putPiece_0 rfl (lv_at hl 0 rfl) ?_
  refine va_get (D := (dC, dI)) (ci := 3) (v := .ref (ad_pl 2)) (C := RX3) (T := TX3) (N := 12) hx hb hts in_X3 hown hK hP 0 rfl rfl 2 (by decide) (hts _ kF_3_18) (fun _ h9 => h9) rfl d_Pl_putPiece_1 ?_
  refine lv_iload_n hx hb d_Pl_putPiece_4 rfl (lv_at hl 1 rfl) ?_
  refine lv_iload_n hx hb d_Pl_putPiece_5 rfl (lv_at hl 2 rfl) ?_
  obtain ⟨hi1, hf⟩ := op_if hf
  refine va_iast (f := pl.2.1 2) hx hb hK hP hD hS 3 0 rfl rfl (ix_in hi1) d_Pl_putPiece_6 (fun H locs hP hD hS => ?_)
  rw [wu_Pl_a2] at hP hD
  obtain ⟨pl2, hpl2, hf⟩ := op_b hf
  have hP : va_P (dC, dI) vwCl (w_Pl_ h_pl ad_pl tC pl2) H := by rw [← Option.some.inj hpl2]; exact hP
  have hD : va_D A (w_Pl_ h_pl ad_pl tC pl2) := by rw [← Option.some.inj hpl2]; exact hD
  refine lv_aload_n hx hb d_Pl_putPiece_7 rfl (lv_at hl 0 rfl) ?_
  refine va_get (D := (dC, dI)) (ci := 3) (v := .ref (ad_pl 5)) (C := RX3) (T := TX3) (N := 12) hx hb hts in_X3 hown hK hP 0 rfl rfl 5 (by decide) (hts _ kF_3_27) (fun _ h9 => h9) rfl d_Pl_putPiece_8 ?_
  refine lv_iload_n hx hb d_Pl_putPiece_11 rfl (lv_at hl 2 rfl) ?_
  refine lv_dup2_11 hx hb d_Pl_putPiece_12 rfl rfl ?_
  obtain ⟨hi3, hf⟩ := op_if hf
  refine va_iald (f := pl2.2.1 5) hx hb hK hP 6 0 rfl rfl (ix_in hi3) d_Pl_putPiece_13 ?_
  refine lv_aload_n hx hb d_Pl_putPiece_14 rfl (lv_at hl 0 rfl) ?_
  refine va_get (D := (dC, dI)) (ci := 3) (v := .ref (ad_pl 1)) (C := RX3) (T := TX3) (N := 12) hx hb hts in_X3 hown hK hP 0 rfl rfl 1 (by decide) (hts _ kF_3_15) (fun _ h9 => h9) rfl d_Pl_putPiece_15 ?_
  refine lv_iload_n hx hb d_Pl_putPiece_18 rfl (lv_at hl 1 rfl) ?_
  obtain ⟨hi4, hf⟩ := op_if hf
  refine va_iald (f := pl2.2.1 1) hx hb hK hP 2 0 rfl rfl (ix_in hi4) d_Pl_putPiece_19 ?_
  refine lv_isub hx hb d_Pl_putPiece_20 ?_
  obtain ⟨hi5, hf⟩ := op_if hf
  refine va_iast (f := pl2.2.1 5) hx hb hK hP hD hS 6 0 rfl rfl (ix_in hi5) d_Pl_putPiece_21 (fun H locs hP hD hS => ?_)
  rw [wu_Pl_a5] at hP hD
  obtain ⟨pl6, hpl6, hf⟩ := op_b hf
  have hP : va_P (dC, dI) vwCl (w_Pl_ h_pl ad_pl tC pl6) H := by rw [← Option.some.inj hpl6]; exact hP
  have hD : va_D A (w_Pl_ h_pl ad_pl tC pl6) := by rw [← Option.some.inj hpl6]; exact hD
  refine lv_aload_n hx hb d_Pl_putPiece_22 rfl (lv_at hl 0 rfl) ?_
  refine va_get (D := (dC, dI)) (ci := 3) (v := .ref (ad_pl 6)) (C := RX3) (T := TX3) (N := 12) hx hb hts in_X3 hown hK hP 0 rfl rfl 6 (by decide) (hts _ kF_3_30) (fun _ h9 => h9) rfl d_Pl_putPiece_23 ?_
  refine lv_iload_n hx hb d_Pl_putPiece_26 rfl (lv_at hl 2 rfl) ?_
  refine lv_dup2_11 hx hb d_Pl_putPiece_27 rfl rfl ?_
  obtain ⟨hi7, hf⟩ := op_if hf
  refine va_iald (f := pl6.2.1 6) hx hb hK hP 7 0 rfl rfl (ix_in hi7) d_Pl_putPiece_28 ?_
  refine lv_iconst (v := 1) hx hb d_Pl_putPiece_29 (by decide) ?_
  refine lv_iadd hx hb d_Pl_putPiece_30 ?_
  obtain ⟨hi8, hf⟩ := op_if hf
  refine va_iast (f := pl6.2.1 6) hx hb hK hP hD hS 7 0 rfl rfl (ix_in hi8) d_Pl_putPiece_31 (fun H locs hP hD hS => ?_)
  rw [wu_Pl_a6] at hP hD
  obtain ⟨pl9, hpl9, hf⟩ := op_b hf
  have hP : va_P (dC, dI) vwCl (w_Pl_ h_pl ad_pl tC pl9) H := by rw [← Option.some.inj hpl9]; exact hP
  have hD : va_D A (w_Pl_ h_pl ad_pl tC pl9) := by rw [← Option.some.inj hpl9]; exact hD
  obtain rfl := Option.some.inj hf
  subst hQ
  subst hAe
  exact W.vret hx hb hr (fun t ht hW => ⟨⟨_, _, rfl, ⟨rfl, rfl⟩, by rw [ht]; exact hP, hD⟩, hS.F ht⟩) hS.2.2 d_Pl_putPiece_32
def l_Pl_lineOfPiece_5 : Nat → Int32 → Int32 → Int32 → Int32 → MS → Option (Int32)
  | 0, _, _, _, _, _ => none
  | n + 1, x1, x2, x3, x4, pl => (if (pl.1 0) ≤ x4 then some (-1) else if ix x4 60 then (if ((pl.2.1 2) x4.toNatClampNeg) = x1 then (if x3 = x2 then if ix x4 60 then some ((pl.2.1 0) x4.toNatClampNeg) else none else l_Pl_lineOfPiece_5 n x1 x2 (x3 + 1) (x4 + 1) pl) else l_Pl_lineOfPiece_5 n x1 x2 x3 (x4 + 1) pl) else none)
def f_Pl_lineOfPiece (pl : MS) (p1 : Int32) (p2 : Int32) : Option (Int32) := l_Pl_lineOfPiece_5 fu p1 p2 0 0 pl
def rm_Pl_lineOfPiece : Room := { frames := 0, cells := 0, slots := 0, locals := 0 }
set_option maxHeartbeats 4000000 in
set_option maxRecDepth 100000 in
theorem m_Pl_lineOfPiece (l : Launch) (dC : Nat → ClassId) (dI : Nat → Nat → Nat) (tC : Nat → ClassId) (h_pl : Nat) (ad_pl : Nat → Nat) (pl : MS) (p1 : Int32) (p2 : Int32) (R : Int32) (H : Heap) (hP : va_P (dC, dI) vwCl (w_Pl_ h_pl ad_pl tC pl) H) (hf : f_Pl_lineOfPiece pl p1 p2 = some R) : Met l y_Pl_lineOfPiece w_Pl_lineOfPiece rm_Pl_lineOfPiece (roP (dC, dI) tC H [.ref h_pl, .int p1, .int p2]) (roQ H (some (.int R))) 0 0 (fun _ => False) := by
  refine Met.ofW (cc := c_Pl_lineOfPiece) (maxL := 5) (ret := (some (.int))) (by decide) rfl ?_
  intro p e s m args below meth c s₁ B hml hv
  obtain ⟨hav, hH, hK⟩ := hv
  have hx := B.exec
  have hb := B.bytes
  have hr := B.returns
  have hts : ∀ w ∈ gw, w.before args s = true := fun w h => atoms_spec (ws := w_Pl_lineOfPiece) B.pre w (List.mem_cons_of_mem _ h)
  have hown : s.vm.findClass RX3 = some m.cls := findClass_of_methodNamed B.named
  have hlocks := B.notSynchronized
  subst hH
  refine q_w (R := rm_Pl_lineOfPiece) (fun Q hQ => ?_)
  refine en_w (av := [.ref h_pl, .int p1, .int p2]) hav (Nat.le_of_ble_eq_true rfl) (fun ls hl => ?_)
  have hl : lv_has ls 5 [(0, .ref h_pl), (1, .int p1), (2, .int p2)] := hl
  unfold f_Pl_lineOfPiece at hf
  refine lv_iconst (v := 0) hx hb d_Pl_lineOfPiece_0 (by decide) ?_
  refine lv_istore_n (lv' := [(3, .int 0), (0, .ref h_pl), (1, .int p1), (2, .int p2)]) hx hb d_Pl_lineOfPiece_1 rfl hl (by decide) rfl (fun ls hl => ?_)
  refine lv_iconst (v := 0) hx hb d_Pl_lineOfPiece_2 (by decide) ?_
  refine lv_istore (lv' := [(4, .int 0), (3, .int 0), (0, .ref h_pl), (1, .int p1), (2, .int p2)]) hx hb d_Pl_lineOfPiece_3 hl (by decide) rfl (fun ls hl => ?_)
  have lp_5 : ∀ (n : Nat) (x1 : Int32) (x2 : Int32) (x3 : Int32) (x4 : Int32), l_Pl_lineOfPiece_5 n x1 x2 x3 x4 pl = some R → ∀ ls : Array Slot, lv_has ls 5 [(4, .int x4), (3, .int x3), (0, .ref h_pl), (1, .int x1), (2, .int x2)] → W p l e rm_Pl_lineOfPiece s m args below meth c s.heap [] 0 0 Q (F0 m 5 ls []) := by
    intro n
    induction n with
    | zero => intro x1 x2 x3 x4 hf; cases hf
    | succ n ih_5 =>
      intro x1 x2 x3 x4 hf ls hl
      rw [l_Pl_lineOfPiece_5] at hf
      refine lv_iload hx hb d_Pl_lineOfPiece_5 (lv_at hl 0 rfl) ?_
      refine lv_aload_n hx hb d_Pl_lineOfPiece_7 rfl (lv_at hl 2 rfl) ?_
      refine va_get (D := (dC, dI)) (ci := 3) (v := .int (pl.1 0)) (C := RX3) (T := TX3) (N := 12) hx hb hts in_X3 hown hK hP 0 rfl rfl 7 (by decide) (hts _ kF_3_33) (fun _ h9 => h9) rfl d_Pl_lineOfPiece_8 ?_
      refine lv_icmp_ge (tgt := 47) hx hb d_Pl_lineOfPiece_11 (by decide) (fun c1 => ?_) (fun c1 => ?_)
      · have hf := op_t hf c1
        refine lv_iconst (v := (-1)) hx hb d_Pl_lineOfPiece_47 (by decide) ?_
        obtain rfl := Option.some.inj hf
        subst hQ
        exact W.iret (v := (-1)) hx hb hr (fun t ht hW => ⟨rfl, ht⟩) (fun q h => by cases h) d_Pl_lineOfPiece_48
      · have hf := op_e hf c1
        refine lv_aload_n hx hb d_Pl_lineOfPiece_14 rfl (lv_at hl 2 rfl) ?_
        refine va_get (D := (dC, dI)) (ci := 3) (v := .ref (ad_pl 2)) (C := RX3) (T := TX3) (N := 12) hx hb hts in_X3 hown hK hP 0 rfl rfl 2 (by decide) (hts _ kF_3_18) (fun _ h9 => h9) rfl d_Pl_lineOfPiece_15 ?_
        refine lv_iload hx hb d_Pl_lineOfPiece_18 (lv_at hl 0 rfl) ?_
        obtain ⟨hi2, hf⟩ := op_if hf
        refine va_iald (f := pl.2.1 2) hx hb hK hP 3 0 rfl rfl (ix_in hi2) d_Pl_lineOfPiece_20 ?_
        refine lv_iload_n hx hb d_Pl_lineOfPiece_21 rfl (lv_at hl 3 rfl) ?_
        refine lv_icmp_ne (tgt := 41) hx hb d_Pl_lineOfPiece_22 (by decide) (fun c3 => ?_) (fun c3 => ?_)
        · have hf := op_e hf c3
          refine lv_iinc (v := x4 + 1) (lv' := [(4, .int (x4 + 1)), (3, .int x3), (0, .ref h_pl), (1, .int x1), (2, .int x2)]) hx hb d_Pl_lineOfPiece_41 hl (k := 0) rfl rfl (by decide) rfl (fun ls hl => ?_)
          refine lv_goto (tgt := 5) hx hb d_Pl_lineOfPiece_44 (by decide) ?_
          exact ih_5 x1 x2 x3 (x4 + 1) hf _ (lv_sub hl [0, 1, 2, 3, 4] rfl)
        · have hf := op_t hf c3
          refine lv_iload_n hx hb d_Pl_lineOfPiece_25 rfl (lv_at hl 1 rfl) ?_
          refine lv_iload_n hx hb d_Pl_lineOfPiece_26 rfl (lv_at hl 4 rfl) ?_
          refine lv_icmp_ne (tgt := 38) hx hb d_Pl_lineOfPiece_27 (by decide) (fun c4 => ?_) (fun c4 => ?_)
          · have hf := op_e hf c4
            refine lv_iinc (v := x3 + 1) (lv' := [(3, .int (x3 + 1)), (4, .int x4), (0, .ref h_pl), (1, .int x1), (2, .int x2)]) hx hb d_Pl_lineOfPiece_38 hl (k := 1) rfl rfl (by decide) rfl (fun ls hl => ?_)
            refine lv_iinc (v := x4 + 1) (lv' := [(4, .int (x4 + 1)), (3, .int (x3 + 1)), (0, .ref h_pl), (1, .int x1), (2, .int x2)]) hx hb d_Pl_lineOfPiece_41 hl (k := 1) rfl rfl (by decide) rfl (fun ls hl => ?_)
            refine lv_goto (tgt := 5) hx hb d_Pl_lineOfPiece_44 (by decide) ?_
            exact ih_5 x1 x2 (x3 + 1) (x4 + 1) hf _ (lv_sub hl [0, 1, 2, 3, 4] rfl)
          · have hf := op_t hf c4
            refine lv_aload_n hx hb d_Pl_lineOfPiece_30 rfl (lv_at hl 2 rfl) ?_
            refine va_get (D := (dC, dI)) (ci := 3) (v := .ref (ad_pl 0)) (C := RX3) (T := TX3) (N := 12) hx hb hts in_X3 hown hK hP 0 rfl rfl 0 (by decide) (hts _ kF_3_9) (fun _ h9 => h9) rfl d_Pl_lineOfPiece_31 ?_
            refine lv_iload hx hb d_Pl_lineOfPiece_34 (lv_at hl 0 rfl) ?_
            obtain ⟨hi5, hf⟩ := op_if hf
            refine va_iald (f := pl.2.1 0) hx hb hK hP 1 0 rfl rfl (ix_in hi5) d_Pl_lineOfPiece_36 ?_
            obtain rfl := Option.some.inj hf
            subst hQ
            exact W.iret (v := (pl.2.1 0) x4.toNatClampNeg) hx hb hr (fun t ht hW => ⟨rfl, ht⟩) (fun q h => by cases h) d_Pl_lineOfPiece_37
  exact lp_5 fu p1 p2 0 0 hf _ (lv_sub hl [0, 1, 2, 3, 4] rfl)
def l_Pl_sumOfBars_4 : Nat → Int32 → Int32 → MS → Option (Int32 × Int32)
  | 0, _, _, _ => none
  | n + 1, x1, x2, pl => (if (pl.1 1) ≤ x2 then some (x1, x2) else if ix x2 60 then (some (x1 + ((pl.2.1 4) x2.toNatClampNeg)) : Option Int32).bind fun v4 => l_Pl_sumOfBars_4 n v4 (x2 + 1) pl else none)
def f_Pl_sumOfBars (pl : MS) : Option (Int32) := (l_Pl_sumOfBars_4 fu 0 0 pl).bind fun q1 => some q1.1
def rm_Pl_sumOfBars : Room := { frames := 0, cells := 0, slots := 0, locals := 0 }
set_option maxHeartbeats 4000000 in
set_option maxRecDepth 100000 in
theorem m_Pl_sumOfBars (l : Launch) (dC : Nat → ClassId) (dI : Nat → Nat → Nat) (tC : Nat → ClassId) (h_pl : Nat) (ad_pl : Nat → Nat) (pl : MS) (R : Int32) (H : Heap) (hP : va_P (dC, dI) vwCl (w_Pl_ h_pl ad_pl tC pl) H) (hf : f_Pl_sumOfBars pl = some R) : Met l y_Pl_sumOfBars w_Pl_sumOfBars rm_Pl_sumOfBars (roP (dC, dI) tC H [.ref h_pl]) (roQ H (some (.int R))) 0 0 (fun _ => False) := by
  refine Met.ofW (cc := c_Pl_sumOfBars) (maxL := 3) (ret := (some (.int))) (by decide) rfl ?_
  intro p e s m args below meth c s₁ B hml hv
  obtain ⟨hav, hH, hK⟩ := hv
  have hx := B.exec
  have hb := B.bytes
  have hr := B.returns
  have hts : ∀ w ∈ gw, w.before args s = true := fun w h => atoms_spec (ws := w_Pl_sumOfBars) B.pre w (List.mem_cons_of_mem _ h)
  have hown : s.vm.findClass RX3 = some m.cls := findClass_of_methodNamed B.named
  have hlocks := B.notSynchronized
  subst hH
  refine q_w (R := rm_Pl_sumOfBars) (fun Q hQ => ?_)
  refine en_w (av := [.ref h_pl]) hav (Nat.le_of_ble_eq_true rfl) (fun ls hl => ?_)
  have hl : lv_has ls 3 [(0, .ref h_pl)] := hl
  unfold f_Pl_sumOfBars at hf
  refine lv_iconst (v := 0) hx hb d_Pl_sumOfBars_0 (by decide) ?_
  refine lv_istore_n (lv' := [(1, .int 0), (0, .ref h_pl)]) hx hb d_Pl_sumOfBars_1 rfl hl (by decide) rfl (fun ls hl => ?_)
  refine lv_iconst (v := 0) hx hb d_Pl_sumOfBars_2 (by decide) ?_
  refine lv_istore_n (lv' := [(2, .int 0), (1, .int 0), (0, .ref h_pl)]) hx hb d_Pl_sumOfBars_3 rfl hl (by decide) rfl (fun ls hl => ?_)
  have lp_4 : ∀ (n : Nat) (x1 : Int32) (x2 : Int32) (Rl : Int32 × Int32), l_Pl_sumOfBars_4 n x1 x2 pl = some Rl → ∀ ls : Array Slot, lv_has ls 3 [(2, .int x2), (1, .int x1), (0, .ref h_pl)] → (∀ ls : Array Slot, lv_has ls 3 [(2, .int Rl.2), (1, .int Rl.1), (0, .ref h_pl)] → W p l e rm_Pl_sumOfBars s m args below meth c s.heap [] 0 0 Q (F0 m 27 ls [])) → W p l e rm_Pl_sumOfBars s m args below meth c s.heap [] 0 0 Q (F0 m 4 ls []) := by
    intro n
    induction n with
    | zero => intro x1 x2 Rl hf; cases hf
    | succ n ih_4 =>
      intro x1 x2 Rl hf ls hl Kk
      rw [l_Pl_sumOfBars_4] at hf
      refine lv_iload_n hx hb d_Pl_sumOfBars_4 rfl (lv_at hl 0 rfl) ?_
      refine lv_aload_n hx hb d_Pl_sumOfBars_5 rfl (lv_at hl 2 rfl) ?_
      refine va_get (D := (dC, dI)) (ci := 3) (v := .int (pl.1 1)) (C := RX3) (T := TX3) (N := 12) hx hb hts in_X3 hown hK hP 0 rfl rfl 8 (by decide) (hts _ kF_3_37) (fun _ h9 => h9) rfl d_Pl_sumOfBars_6 ?_
      refine lv_icmp_ge (tgt := 27) hx hb d_Pl_sumOfBars_9 (by decide) (fun c2 => ?_) (fun c2 => ?_)
      · have hf := op_t hf c2
        obtain rfl := Option.some.inj hf
        exact Kk _ (lv_sub hl [0, 1, 2] rfl)
      · have hf := op_e hf c2
        refine lv_iload_n hx hb d_Pl_sumOfBars_12 rfl (lv_at hl 1 rfl) ?_
        refine lv_aload_n hx hb d_Pl_sumOfBars_13 rfl (lv_at hl 2 rfl) ?_
        refine va_get (D := (dC, dI)) (ci := 3) (v := .ref (ad_pl 4)) (C := RX3) (T := TX3) (N := 12) hx hb hts in_X3 hown hK hP 0 rfl rfl 4 (by decide) (hts _ kF_3_24) (fun _ h9 => h9) rfl d_Pl_sumOfBars_14 ?_
        refine lv_iload_n hx hb d_Pl_sumOfBars_17 rfl (lv_at hl 0 rfl) ?_
        obtain ⟨hi3, hf⟩ := op_if hf
        refine va_iald (f := pl.2.1 4) hx hb hK hP 5 0 rfl rfl (ix_in hi3) d_Pl_sumOfBars_18 ?_
        refine lv_iadd hx hb d_Pl_sumOfBars_19 ?_
        obtain ⟨v4, hv4, hf⟩ := op_b hf
        refine rw_i (y := v4) (Option.some.inj hv4) ?_
        refine lv_istore_n (lv' := [(1, .int v4), (2, .int x2), (0, .ref h_pl)]) hx hb d_Pl_sumOfBars_20 rfl hl (by decide) rfl (fun ls hl => ?_)
        refine lv_iinc (v := x2 + 1) (lv' := [(2, .int (x2 + 1)), (1, .int v4), (0, .ref h_pl)]) hx hb d_Pl_sumOfBars_21 hl (k := 1) rfl rfl (by decide) rfl (fun ls hl => ?_)
        refine lv_goto (tgt := 4) hx hb d_Pl_sumOfBars_24 (by decide) ?_
        exact ih_4 v4 (x2 + 1) Rl hf _ (lv_sub hl [0, 1, 2] rfl) Kk
  obtain ⟨q1, hq1, hf⟩ := op_b hf
  refine lp_4 fu 0 0 q1 hq1 _ (lv_sub hl [0, 1, 2] rfl) ?_
  intro ls hl
  refine lv_iload_n hx hb d_Pl_sumOfBars_27 rfl (lv_at hl 1 rfl) ?_
  obtain rfl := Option.some.inj hf
  subst hQ
  exact W.iret (v := q1.1) hx hb hr (fun t ht hW => ⟨rfl, ht⟩) (fun q h => by cases h) d_Pl_sumOfBars_28
def l_Pl_sumOfPieces_4 : Nat → Int32 → Int32 → MS → Option (Int32 × Int32)
  | 0, _, _, _ => none
  | n + 1, x1, x2, pl => (if (pl.1 0) ≤ x2 then some (x1, x2) else if ix x2 60 then (some (x1 + ((pl.2.1 1) x2.toNatClampNeg)) : Option Int32).bind fun v4 => l_Pl_sumOfPieces_4 n v4 (x2 + 1) pl else none)
def f_Pl_sumOfPieces (pl : MS) : Option (Int32) := (l_Pl_sumOfPieces_4 fu 0 0 pl).bind fun q1 => some q1.1
def rm_Pl_sumOfPieces : Room := { frames := 0, cells := 0, slots := 0, locals := 0 }
set_option maxHeartbeats 4000000 in
set_option maxRecDepth 100000 in
theorem m_Pl_sumOfPieces (l : Launch) (dC : Nat → ClassId) (dI : Nat → Nat → Nat) (tC : Nat → ClassId) (h_pl : Nat) (ad_pl : Nat → Nat) (pl : MS) (R : Int32) (H : Heap) (hP : va_P (dC, dI) vwCl (w_Pl_ h_pl ad_pl tC pl) H) (hf : f_Pl_sumOfPieces pl = some R) : Met l y_Pl_sumOfPieces w_Pl_sumOfPieces rm_Pl_sumOfPieces (roP (dC, dI) tC H [.ref h_pl]) (roQ H (some (.int R))) 0 0 (fun _ => False) := by
  refine Met.ofW (cc := c_Pl_sumOfPieces) (maxL := 3) (ret := (some (.int))) (by decide) rfl ?_
  intro p e s m args below meth c s₁ B hml hv
  obtain ⟨hav, hH, hK⟩ := hv
  have hx := B.exec
  have hb := B.bytes
  have hr := B.returns
  have hts : ∀ w ∈ gw, w.before args s = true := fun w h => atoms_spec (ws := w_Pl_sumOfPieces) B.pre w (List.mem_cons_of_mem _ h)
  have hown : s.vm.findClass RX3 = some m.cls := findClass_of_methodNamed B.named
  have hlocks := B.notSynchronized
  subst hH
  refine q_w (R := rm_Pl_sumOfPieces) (fun Q hQ => ?_)
  refine en_w (av := [.ref h_pl]) hav (Nat.le_of_ble_eq_true rfl) (fun ls hl => ?_)
  have hl : lv_has ls 3 [(0, .ref h_pl)] := hl
  unfold f_Pl_sumOfPieces at hf
  refine lv_iconst (v := 0) hx hb d_Pl_sumOfPieces_0 (by decide) ?_
  refine lv_istore_n (lv' := [(1, .int 0), (0, .ref h_pl)]) hx hb d_Pl_sumOfPieces_1 rfl hl (by decide) rfl (fun ls hl => ?_)
  refine lv_iconst (v := 0) hx hb d_Pl_sumOfPieces_2 (by decide) ?_
  refine lv_istore_n (lv' := [(2, .int 0), (1, .int 0), (0, .ref h_pl)]) hx hb d_Pl_sumOfPieces_3 rfl hl (by decide) rfl (fun ls hl => ?_)
  have lp_4 : ∀ (n : Nat) (x1 : Int32) (x2 : Int32) (Rl : Int32 × Int32), l_Pl_sumOfPieces_4 n x1 x2 pl = some Rl → ∀ ls : Array Slot, lv_has ls 3 [(2, .int x2), (1, .int x1), (0, .ref h_pl)] → (∀ ls : Array Slot, lv_has ls 3 [(2, .int Rl.2), (1, .int Rl.1), (0, .ref h_pl)] → W p l e rm_Pl_sumOfPieces s m args below meth c s.heap [] 0 0 Q (F0 m 27 ls [])) → W p l e rm_Pl_sumOfPieces s m args below meth c s.heap [] 0 0 Q (F0 m 4 ls []) := by
    intro n
    induction n with
    | zero => intro x1 x2 Rl hf; cases hf
    | succ n ih_4 =>
      intro x1 x2 Rl hf ls hl Kk
      rw [l_Pl_sumOfPieces_4] at hf
      refine lv_iload_n hx hb d_Pl_sumOfPieces_4 rfl (lv_at hl 0 rfl) ?_
      refine lv_aload_n hx hb d_Pl_sumOfPieces_5 rfl (lv_at hl 2 rfl) ?_
      refine va_get (D := (dC, dI)) (ci := 3) (v := .int (pl.1 0)) (C := RX3) (T := TX3) (N := 12) hx hb hts in_X3 hown hK hP 0 rfl rfl 7 (by decide) (hts _ kF_3_33) (fun _ h9 => h9) rfl d_Pl_sumOfPieces_6 ?_
      refine lv_icmp_ge (tgt := 27) hx hb d_Pl_sumOfPieces_9 (by decide) (fun c2 => ?_) (fun c2 => ?_)
      · have hf := op_t hf c2
        obtain rfl := Option.some.inj hf
        exact Kk _ (lv_sub hl [0, 1, 2] rfl)
      · have hf := op_e hf c2
        refine lv_iload_n hx hb d_Pl_sumOfPieces_12 rfl (lv_at hl 1 rfl) ?_
        refine lv_aload_n hx hb d_Pl_sumOfPieces_13 rfl (lv_at hl 2 rfl) ?_
        refine va_get (D := (dC, dI)) (ci := 3) (v := .ref (ad_pl 1)) (C := RX3) (T := TX3) (N := 12) hx hb hts in_X3 hown hK hP 0 rfl rfl 1 (by decide) (hts _ kF_3_15) (fun _ h9 => h9) rfl d_Pl_sumOfPieces_14 ?_
        refine lv_iload_n hx hb d_Pl_sumOfPieces_17 rfl (lv_at hl 0 rfl) ?_
        obtain ⟨hi3, hf⟩ := op_if hf
        refine va_iald (f := pl.2.1 1) hx hb hK hP 2 0 rfl rfl (ix_in hi3) d_Pl_sumOfPieces_18 ?_
        refine lv_iadd hx hb d_Pl_sumOfPieces_19 ?_
        obtain ⟨v4, hv4, hf⟩ := op_b hf
        refine rw_i (y := v4) (Option.some.inj hv4) ?_
        refine lv_istore_n (lv' := [(1, .int v4), (2, .int x2), (0, .ref h_pl)]) hx hb d_Pl_sumOfPieces_20 rfl hl (by decide) rfl (fun ls hl => ?_)
        refine lv_iinc (v := x2 + 1) (lv' := [(2, .int (x2 + 1)), (1, .int v4), (0, .ref h_pl)]) hx hb d_Pl_sumOfPieces_21 hl (k := 1) rfl rfl (by decide) rfl (fun ls hl => ?_)
        refine lv_goto (tgt := 4) hx hb d_Pl_sumOfPieces_24 (by decide) ?_
        exact ih_4 v4 (x2 + 1) Rl hf _ (lv_sub hl [0, 1, 2] rfl) Kk
  obtain ⟨q1, hq1, hf⟩ := op_b hf
  refine lp_4 fu 0 0 q1 hq1 _ (lv_sub hl [0, 1, 2] rfl) ?_
  intro ls hl
  refine lv_iload_n hx hb d_Pl_sumOfPieces_27 rfl (lv_at hl 1 rfl) ?_
  obtain rfl := Option.some.inj hf
  subst hQ
  exact W.iret (v := q1.1) hx hb hr (fun t ht hW => ⟨rfl, ht⟩) (fun q h => by cases h) d_Pl_sumOfPieces_28
