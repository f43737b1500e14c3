def f_Md_place (md : MS) (p1 : Int32) (p2 : Int64) (p3 : Int64) (p4 : Int64) : Option (Int32 × MS) := (f_Md_isLine md p1).bind fun q1 => (if q1 = 0 then some (0, md) else (f_Md_isIn p2 (-100000) 100000).bind fun q3 => (if q3 = 0 then some (0, md) else (f_Md_isIn p3 (-100000) 100000).bind fun q5 => (if q5 = 0 then some (0, md) else (f_Md_isIn p4 (-100000) 100000).bind fun q7 => (if q7 = 0 then some (0, md) else if ix p1 12 then (some (sA md 6 (upd (md.2.1 6) p1.toNatClampNeg (vp_nar .boolean 1)))).bind fun md10 => if ix p1 12 then (some (sL md10 2 (vp_updL (md10.2.2 2) p1.toNatClampNeg p2))).bind fun md12 => if ix p1 12 then (some (sL md12 3 (vp_updL (md12.2.2 3) p1.toNatClampNeg p3))).bind fun md14 => if ix p1 12 then (some (sL md14 4 (vp_updL (md14.2.2 4) p1.toNatClampNeg p4))).bind fun md16 => some (1, md16) else none else none else none else none))))
def rm_Md_place : Room := { frames := 1, cells := 0, slots := 0, locals := 25 }
set_option maxHeartbeats 4000000 in
set_option maxRecDepth 100000 in
theorem m_Md_place (l : Launch) (dC : Nat → ClassId) (dI : Nat → Nat → Nat) (tC : Nat → ClassId) (h_md : Nat) (ad_md : Nat → Nat) (md : MS) (p1 : Int32) (p2 : Int64) (p3 : Int64) (p4 : Int64) (R : Int32 × MS) (hf : f_Md_place md p1 p2 p3 p4 = some R) (sz : Nat) : Met l y_Md_place w_Md_place rm_Md_place (wrP (dC, dI) tC (w_Md_ h_md ad_md tC md) sz [.ref h_md, .int p1, .long p2, .long p3, .long p4]) (wrQ (dC, dI) (w_Md_ h_md ad_md tC md) sz (fun r w => r = (some (.int R.1)) ∧ w = (w_Md_ h_md ad_md tC R.2))) 0 0 (va_A (w_Md_ h_md ad_md tC md) sz) := by
  refine Met.ofW (cc := c_Md_place) (maxL := 8) (ret := (some (.boolean))) (by decide) rfl ?_
  intro p e s m args below meth c s₁ B hml hv
  obtain ⟨hav, hsz, hP, hK, hD0⟩ := hv
  have hx := B.exec
  have hb := B.bytes
  have hr := B.returns
  have hts : ∀ w ∈ gw, w.before args s = true := fun w h => atoms_spec (ws := w_Md_place) B.pre w (List.mem_cons_of_mem _ h)
  have hown : s.vm.findClass RX9 = some m.cls := findClass_of_methodNamed B.named
  have hlocks := B.notSynchronized
  subst hsz
  have hD := hD0.self (sz := s.heap.size)
  obtain ⟨A, hAe⟩ : ∃ z, z = va_A (w_Md_ h_md ad_md tC md) s.heap.size := ⟨_, rfl⟩
  rw [← hAe] at hD
  have hA : ∀ q : Nat, s.heap.size ≤ q → A q := fun q h => by rw [hAe]; exact Or.inr h
  have hS : va_S A s.heap s.heap [] := va_S.rf
  refine q_w (R := rm_Md_place) (fun Q hQ => ?_)
  refine en_w (av := [.ref h_md, .int p1, .long p2, .long p3, .long p4]) hav (Nat.le_of_ble_eq_true rfl) (fun ls hl => ?_)
  have hl : lv_has ls 8 [(0, .ref h_md), (1, .int p1), (2, .long p2), (4, .long p3), (6, .long p4)] := hl
  unfold f_Md_place at hf
  refine lv_aload_n hx hb d_Md_place_0 rfl (lv_at hl 0 rfl) ?_
  refine lv_iload_n hx hb d_Md_place_1 rfl (lv_at hl 1 rfl) ?_
  obtain ⟨q1, hq1, hf⟩ := op_b hf
  refine ro_go rfl (va_runV (As := [.int p1]) (rest := []) ⟨hx, hb, hml, hown, hts⟩ (m_Md_isLine l dC dI tC h_md ad_md md p1 q1 _ hP hq1) (cwV 1 hts (gd_V kM_9_154 kI_Md_isLine kV_Md_isLine kZ_9 kC_Md_isLine) rfl rfl rfl (by decide +kernel) ⟨(Nat.le_of_ble_eq_true rfl), (Nat.le_of_ble_eq_true rfl)⟩) ⟨ro_blind, va_recv hK hP (ci := 9) (q0 := 0) rfl rfl, ro_pre hK⟩ rfl rfl hl.1 rfl (lv_room (Nat.le_of_ble_eq_true rfl)) d_Md_place_2 ⟨(Nat.le_of_ble_eq_true rfl), (Nat.le_of_ble_eq_true rfl)⟩) ?_
  refine W.eq (g2 := F0 m 5 ls [.int q1]) rfl ?_
  refine lv_if_eq (tgt := 49) hx hb d_Md_place_5 (by decide) (fun c2 => ?_) (fun c2 => ?_)
  · have hf := op_t hf c2
    refine lv_iconst (v := 0) hx hb d_Md_place_49 (by decide) ?_
    obtain rfl := Option.some.inj hf
    subst hQ
    subst hAe
    exact W.zret (v := 0) (ty := .boolean) hx hb hr (by decide) (fun t ht hW => ⟨⟨_, _, rfl, ⟨rfl, rfl⟩, by rw [ht]; exact hP, hD⟩, hS.F ht⟩) hS.2.2 d_Md_place_50
  · have hf := op_e hf c2
    refine lv_lload_n hx hb d_Md_place_8 rfl (lv_at hl 2 rfl) ?_
    refine lv_ldc2 (v := (-100000)) hx hb hown (hts _ kK_9_220) d_Md_place_9 ?_
    refine lv_ldc2 (v := 100000) hx hb hown (hts _ kK_9_222) d_Md_place_12 ?_
    obtain ⟨q3, hq3, hf⟩ := op_b hf
    refine ro_go rfl (va_runS (As := [.long p2, .long (-100000), .long 100000]) (rest := []) ⟨hx, hb, hml, hown, hts⟩ (m_Md_isIn l dC dI tC p2 (-100000) 100000 q3 _  hq3) (cwS 3 hts (gd_S kM_9_128 kS_Md_isIn kZ_9 kC_Md_isIn) rfl rfl rfl (by decide +kernel) ⟨(Nat.le_of_ble_eq_true rfl), (Nat.le_of_ble_eq_true rfl)⟩) ⟨ro_blind, ro_pre hK⟩ rfl rfl hl.1 rfl (lv_room (Nat.le_of_ble_eq_true rfl)) d_Md_place_15 ⟨(Nat.le_of_ble_eq_true rfl), (Nat.le_of_ble_eq_true rfl)⟩) ?_
    refine W.eq (g2 := F0 m 18 ls [.int q3]) rfl ?_
    refine lv_if_eq (tgt := 49) hx hb d_Md_place_18 (by decide) (fun c4 => ?_) (fun c4 => ?_)
    · have hf := op_t hf c4
      refine lv_iconst (v := 0) hx hb d_Md_place_49 (by decide) ?_
      obtain rfl := Option.some.inj hf
      subst hQ
      subst hAe
      exact W.zret (v := 0) (ty := .boolean) hx hb hr (by decide) (fun t ht hW => ⟨⟨_, _, rfl, ⟨rfl, rfl⟩, by rw [ht]; exact hP, hD⟩, hS.F ht⟩) hS.2.2 d_Md_place_50
    · have hf := op_e hf c4
      refine lv_lload hx hb d_Md_place_21 (lv_at hl 3 rfl) ?_
      refine lv_ldc2 (v := (-100000)) hx hb hown (hts _ kK_9_220) d_Md_place_23 ?_
      refine lv_ldc2 (v := 100000) hx hb hown (hts _ kK_9_222) d_Md_place_26 ?_
      obtain ⟨q5, hq5, hf⟩ := op_b hf
      refine ro_go rfl (va_runS (As := [.long p3, .long (-100000), .long 100000]) (rest := []) ⟨hx, hb, hml, hown, hts⟩ (m_Md_isIn l dC dI tC p3 (-100000) 100000 q5 _  hq5) (cwS 3 hts (gd_S kM_9_128 kS_Md_isIn kZ_9 kC_Md_isIn) rfl rfl rfl (by decide +kernel) ⟨(Nat.le_of_ble_eq_true rfl), (Nat.le_of_ble_eq_true rfl)⟩) ⟨ro_blind, ro_pre hK⟩ rfl rfl hl.1 rfl (lv_room (Nat.le_of_ble_eq_true rfl)) d_Md_place_29 ⟨(Nat.le_of_ble_eq_true rfl), (Nat.le_of_ble_eq_true rfl)⟩) ?_
      refine W.eq (g2 := F0 m 32 ls [.int q5]) rfl ?_
      refine lv_if_eq (tgt := 49) hx hb d_Md_place_32 (by decide) (fun c6 => ?_) (fun c6 => ?_)
      · have hf := op_t hf c6
        refine lv_iconst (v := 0) hx hb d_Md_place_49 (by decide) ?_
        obtain rfl := Option.some.inj hf
        subst hQ
        subst hAe
        exact W.zret (v := 0) (ty := .boolean) hx hb hr (by decide) (fun t ht hW => ⟨⟨_, _, rfl, ⟨rfl, rfl⟩, by rw [ht]; exact hP, hD⟩, hS.F ht⟩) hS.2.2 d_Md_place_50
      · have hf := op_e hf c6
        refine lv_lload hx hb d_Md_place_35 (lv_at hl 4 rfl) ?_
        refine lv_ldc2 (v := (-100000)) hx hb hown (hts _ kK_9_220) d_Md_place_37 ?_
        refine lv_ldc2 (v := 100000) hx hb hown (hts _ kK_9_222) d_Md_place_40 ?_
        obtain ⟨q7, hq7, hf⟩ := op_b hf
        refine ro_go rfl (va_runS (As := [.long p4, .long (-100000), .long 100000]) (rest := []) ⟨hx, hb, hml, hown, hts⟩ (m_Md_isIn l dC dI tC p4 (-100000) 100000 q7 _  hq7) (cwS 3 hts (gd_S kM_9_128 kS_Md_isIn kZ_9 kC_Md_isIn) rfl rfl rfl (by decide +kernel) ⟨(Nat.le_of_ble_eq_true rfl), (Nat.le_of_ble_eq_true rfl)⟩) ⟨ro_blind, ro_pre hK⟩ rfl rfl hl.1 rfl (lv_room (Nat.le_of_ble_eq_true rfl)) d_Md_place_43 ⟨(Nat.le_of_ble_eq_true rfl), (Nat.le_of_ble_eq_true rfl)⟩) ?_
        refine W.eq (g2 := F0 m 46 ls [.int q7]) rfl ?_
        refine lv_if_ne (tgt := 51) hx hb d_Md_place_46 (by decide) (fun c8 => ?_) (fun c8 => ?_)
        · have hf := op_e hf c8
          refine lv_aload_n hx hb d_Md_place_51 rfl (lv_at hl 0 rfl) ?_
          refine va_get (D := (dC, dI)) (ci := 9) (v := .ref (ad_md 8)) (C := RX9) (T := TX9) (N := 46) hx hb hts in_X9 hown hK hP 0 rfl rfl 11 (by decide) (hts _ kF_9_35) (fun _ h9 => h9) rfl d_Md_place_52 ?_
          refine lv_iload_n hx hb d_Md_place_55 rfl (lv_at hl 1 rfl) ?_
          refine lv_iconst (v := 1) hx hb d_Md_place_56 (by decide) ?_
          obtain ⟨hi9, hf⟩ := op_if hf
          refine va_zast (f := md.2.1 6) hx hb hK hP hD hS 9 3 rfl rfl (ix_in hi9) d_Md_place_57 (fun H locs hP hD hS => ?_)
          rw [wu_Md_a6] at hP hD
          obtain ⟨md10, hmd10, hf⟩ := op_b hf
          have hP : va_P (dC, dI) vwCl (w_Md_ h_md ad_md tC md10) H := by rw [← Option.some.inj hmd10]; exact hP
          have hD : va_D A (w_Md_ h_md ad_md tC md10) := by rw [← Option.some.inj hmd10]; exact hD
          refine lv_aload_n hx hb d_Md_place_58 rfl (lv_at hl 0 rfl) ?_
          refine va_get (D := (dC, dI)) (ci := 9) (v := .ref (ad_md 9)) (C := RX9) (T := TX9) (N := 46) hx hb hts in_X9 hown hK hP 0 rfl rfl 12 (by decide) (hts _ kF_9_39) (fun _ h9 => h9) rfl d_Md_place_59 ?_
          refine lv_iload_n hx hb d_Md_place_62 rfl (lv_at hl 1 rfl) ?_
          refine lv_lload_n hx hb d_Md_place_63 rfl (lv_at hl 2 rfl) ?_
          obtain ⟨hi11, hf⟩ := op_if hf
          refine va_last (f := md10.2.2 2) hx hb hK hP hD hS 10 1 rfl rfl (ix_in hi11) d_Md_place_64 (fun H locs hP hD hS => ?_)
          rw [wu_Md_l2] at hP hD
          obtain ⟨md12, hmd12, hf⟩ := op_b hf
          have hP : va_P (dC, dI) vwCl (w_Md_ h_md ad_md tC md12) H := by rw [← Option.some.inj hmd12]; exact hP
          have hD : va_D A (w_Md_ h_md ad_md tC md12) := by rw [← Option.some.inj hmd12]; exact hD
          refine lv_aload_n hx hb d_Md_place_65 rfl (lv_at hl 0 rfl) ?_
          refine va_get (D := (dC, dI)) (ci := 9) (v := .ref (ad_md 10)) (C := RX9) (T := TX9) (N := 46) hx hb hts in_X9 hown hK hP 0 rfl rfl 13 (by decide) (hts _ kF_9_42) (fun _ h9 => h9) rfl d_Md_place_66 ?_
          refine lv_iload_n hx hb d_Md_place_69 rfl (lv_at hl 1 rfl) ?_
          refine lv_lload hx hb d_Md_place_70 (lv_at hl 3 rfl) ?_
          obtain ⟨hi13, hf⟩ := op_if hf
          refine va_last (f := md12.2.2 3) hx hb hK hP hD hS 11 1 rfl rfl (ix_in hi13) d_Md_place_72 (fun H locs hP hD hS => ?_)
          rw [wu_Md_l3] at hP hD
          obtain ⟨md14, hmd14, hf⟩ := op_b hf
          have hP : va_P (dC, dI) vwCl (w_Md_ h_md ad_md tC md14) H := by rw [← Option.some.inj hmd14]; exact hP
          have hD : va_D A (w_Md_ h_md ad_md tC md14) := by rw [← Option.some.inj hmd14]; exact hD
          refine lv_aload_n hx hb d_Md_place_73 rfl (lv_at hl 0 rfl) ?_
          refine va_get (D := (dC, dI)) (ci := 9) (v := .ref (ad_md 11)) (C := RX9) (T := TX9) (N := 46) hx hb hts in_X9 hown hK hP 0 rfl rfl 14 (by decide) (hts _ kF_9_45) (fun _ h9 => h9) rfl d_Md_place_74 ?_
          refine lv_iload_n hx hb d_Md_place_77 rfl (lv_at hl 1 rfl) ?_
          refine lv_lload hx hb d_Md_place_78 (lv_at hl 4 rfl) ?_
          obtain ⟨hi15, hf⟩ := op_if hf
          refine va_last (f := md14.2.2 4) hx hb hK hP hD hS 12 1 rfl rfl (ix_in hi15) d_Md_place_80 (fun H locs hP hD hS => ?_)
          rw [wu_Md_l4] at hP hD
          obtain ⟨md16, hmd16, hf⟩ := op_b hf
          have hP : va_P (dC, dI) vwCl (w_Md_ h_md ad_md tC md16) H := by rw [← Option.some.inj hmd16]; exact hP
          have hD : va_D A (w_Md_ h_md ad_md tC md16) := by rw [← Option.some.inj hmd16]; exact hD
          refine lv_iconst (v := 1) hx hb d_Md_place_81 (by decide) ?_
          obtain rfl := Option.some.inj hf
          subst hQ
          subst hAe
          exact W.zret (v := 1) (ty := .boolean) hx hb hr (by decide) (fun t ht hW => ⟨⟨_, _, rfl, ⟨rfl, rfl⟩, by rw [ht]; exact hP, hD⟩, hS.F ht⟩) hS.2.2 d_Md_place_82
        · have hf := op_t hf c8
          refine lv_iconst (v := 0) hx hb d_Md_place_49 (by decide) ?_
          obtain rfl := Option.some.inj hf
          subst hQ
          subst hAe
          exact W.zret (v := 0) (ty := .boolean) hx hb hr (by decide) (fun t ht hW => ⟨⟨_, _, rfl, ⟨rfl, rfl⟩, by rw [ht]; exact hP, hD⟩, hS.F ht⟩) hS.2.2 d_Md_place_50
def l_Md_isTold_4 : Nat → Int32 → Int32 → Int32 → MS → Option (Int32 × Int32)
  | 0, _, _, _, _ => none
  | n + 1, x1, x2, x3, md => if ix x1 12 then if ix ((md.2.1 3) x1.toNatClampNeg) 10 then (if ((md.2.1 1) ((md.2.1 3) x1.toNatClampNeg).toNatClampNeg) ≤ x3 then some (x2, x3) else (if x2 = 0 then l_Md_isTold_4 n x1 0 (x3 + 1) md else if ix ((6 * x1) + x3) 72 then (if ((md.2.2 1) ((6 * x1) + x3).toNatClampNeg) ≤ 0 then l_Md_isTold_4 n x1 0 (x3 + 1) md else l_Md_isTold_4 n x1 1 (x3 + 1) md) else none)) else none else none
def f_Md_isTold (md : MS) (p1 : Int32) : Option (Int32) := (l_Md_isTold_4 fu p1 1 0 md).bind fun q1 => if q1.1 = 0 ∨ q1.1 = 1 then some q1.1 else none
def rm_Md_isTold : Room := { frames := 0, cells := 0, slots := 0, locals := 0 }
set_option maxHeartbeats 4000000 in
set_option maxRecDepth 100000 in
theorem m_Md_isTold (l : Launch) (dC : Nat → ClassId) (dI : Nat → Nat → Nat) (tC : Nat → ClassId) (h_md : Nat) (ad_md : Nat → Nat) (md : MS) (p1 : Int32) (R : Int32) (H : Heap) (hP : va_P (dC, dI) vwCl (w_Md_ h_md ad_md tC md) H) (hf : f_Md_isTold md p1 = some R) : Met l y_Md_isTold w_Md_isTold rm_Md_isTold (roP (dC, dI) tC H [.ref h_md, .int p1]) (roQ H (some (.int R))) 0 0 (fun _ => False) := by
  refine Met.ofW (cc := c_Md_isTold) (maxL := 4) (ret := (some (.boolean))) (by decide) rfl ?_
  intro p e s m args below meth c s₁ B hml hv
  obtain ⟨hav, hH, hK⟩ := hv
  have hx := B.exec
  have hb := B.bytes
  have hr := B.returns
  have hts : ∀ w ∈ gw, w.before args s = true := fun w h => atoms_spec (ws := w_Md_isTold) B.pre w (List.mem_cons_of_mem _ h)
  have hown : s.vm.findClass RX9 = some m.cls := findClass_of_methodNamed B.named
  have hlocks := B.notSynchronized
  subst hH
  refine q_w (R := rm_Md_isTold) (fun Q hQ => ?_)
  refine en_w (av := [.ref h_md, .int p1]) hav (Nat.le_of_ble_eq_true rfl) (fun ls hl => ?_)
  have hl : lv_has ls 4 [(0, .ref h_md), (1, .int p1)] := hl
  unfold f_Md_isTold at hf
  refine lv_iconst (v := 1) hx hb d_Md_isTold_0 (by decide) ?_
  refine lv_istore_n (lv' := [(2, .int 1), (0, .ref h_md), (1, .int p1)]) hx hb d_Md_isTold_1 rfl hl (by decide) rfl (fun ls hl => ?_)
  refine lv_iconst (v := 0) hx hb d_Md_isTold_2 (by decide) ?_
  refine lv_istore_n (lv' := [(3, .int 0), (2, .int 1), (0, .ref h_md), (1, .int p1)]) hx hb d_Md_isTold_3 rfl hl (by decide) rfl (fun ls hl => ?_)
  have lp_4 : ∀ (n : Nat) (x1 : Int32) (x2 : Int32) (x3 : Int32) (Rl : Int32 × Int32), l_Md_isTold_4 n x1 x2 x3 md = some Rl → ∀ ls : Array Slot, lv_has ls 4 [(3, .int x3), (2, .int x2), (0, .ref h_md), (1, .int x1)] → (∀ ls : Array Slot, lv_has ls 4 [(3, .int Rl.2), (2, .int Rl.1), (0, .ref h_md), (1, .int x1)] → W p l e rm_Md_isTold s m args below meth c s.heap [] 0 0 Q (F0 m 51 ls [])) → W p l e rm_Md_isTold s m args below meth c s.heap [] 0 0 Q (F0 m 4 ls []) := by
    intro n
    induction n with
    | zero => intro x1 x2 x3 Rl hf; cases hf
    | succ n ih_4 =>
      intro x1 x2 x3 Rl hf ls hl Kk
      rw [l_Md_isTold_4] at hf
      refine lv_iload_n hx hb d_Md_isTold_4 rfl (lv_at hl 0 rfl) ?_
      refine lv_aload_n hx hb d_Md_isTold_5 rfl (lv_at hl 2 rfl) ?_
      refine va_get (D := (dC, dI)) (ci := 9) (v := .ref (ad_md 1)) (C := RX9) (T := TX9) (N := 46) hx hb hts in_X9 hown hK hP 0 rfl rfl 3 (by decide) (hts _ kF_9_13) (fun _ h9 => h9) rfl d_Md_isTold_6 ?_
      refine lv_aload_n hx hb d_Md_isTold_9 rfl (lv_at hl 2 rfl) ?_
      refine va_get (D := (dC, dI)) (ci := 9) (v := .ref (ad_md 4)) (C := RX9) (T := TX9) (N := 46) hx hb hts in_X9 hown hK hP 0 rfl rfl 7 (by decide) (hts _ kF_9_23) (fun _ h9 => h9) rfl d_Md_isTold_10 ?_
      refine lv_iload_n hx hb d_Md_isTold_13 rfl (lv_at hl 3 rfl) ?_
      obtain ⟨hi2, hf⟩ := op_if hf
      refine va_iald (f := md.2.1 3) hx hb hK hP 5 0 rfl rfl (ix_in hi2) d_Md_isTold_14 ?_
      obtain ⟨hi3, hf⟩ := op_if hf
      refine va_iald (f := md.2.1 1) hx hb hK hP 2 0 rfl rfl (ix_in hi3) d_Md_isTold_15 ?_
      refine lv_icmp_ge (tgt := 51) hx hb d_Md_isTold_16 (by decide) (fun c4 => ?_) (fun c4 => ?_)
      · have hf := op_t hf c4
        obtain rfl := Option.some.inj hf
        exact Kk _ (lv_sub hl [0, 1, 2, 3] rfl)
      · have hf := op_e hf c4
        refine lv_iload_n hx hb d_Md_isTold_19 rfl (lv_at hl 1 rfl) ?_
        refine lv_if_eq (tgt := 43) hx hb d_Md_isTold_20 (by decide) (fun c5 => ?_) (fun c5 => ?_)
        · have hf := op_t hf c5
          refine lv_iconst (v := 0) hx hb d_Md_isTold_43 (by decide) ?_
          refine lv_istore_n (lv' := [(2, .int 0), (3, .int x3), (0, .ref h_md), (1, .int x1)]) hx hb d_Md_isTold_44 rfl hl (by decide) rfl (fun ls hl => ?_)
          refine lv_iinc (v := x3 + 1) (lv' := [(3, .int (x3 + 1)), (2, .int 0), (0, .ref h_md), (1, .int x1)]) hx hb d_Md_isTold_45 hl (k := 1) rfl rfl (by decide) rfl (fun ls hl => ?_)
          refine lv_goto (tgt := 4) hx hb d_Md_isTold_48 (by decide) ?_
          exact ih_4 x1 0 (x3 + 1) Rl hf _ (lv_sub hl [0, 1, 2, 3] rfl) Kk
        · have hf := op_e hf c5
          refine lv_aload_n hx hb d_Md_isTold_23 rfl (lv_at hl 2 rfl) ?_
          refine va_get (D := (dC, dI)) (ci := 9) (v := .ref (ad_md 7)) (C := RX9) (T := TX9) (N := 46) hx hb hts in_X9 hown hK hP 0 rfl rfl 10 (by decide) (hts _ kF_9_32) (fun _ h9 => h9) rfl d_Md_isTold_24 ?_
          refine lv_bipush (v := 6) hx hb d_Md_isTold_27 (by decide) ?_
          refine lv_iload_n hx hb d_Md_isTold_29 rfl (lv_at hl 3 rfl) ?_
          refine lv_imul hx hb d_Md_isTold_30 ?_
          refine lv_iload_n hx hb d_Md_isTold_31 rfl (lv_at hl 0 rfl) ?_
          refine lv_iadd hx hb d_Md_isTold_32 ?_
          obtain ⟨hi6, hf⟩ := op_if hf
          refine va_lald (f := md.2.2 1) hx hb hK hP 8 1 rfl rfl (ix_in hi6) d_Md_isTold_33 ?_
          refine lv_lconst (v := 0) hx hb d_Md_isTold_34 (by decide) ?_
          refine W.lcmp hx hb d_Md_isTold_35 ?_
          refine lv_if_le (tgt := 43) hx hb d_Md_isTold_36 (by decide) (fun c7 => ?_) (fun c7 => ?_)
          · have c7 := (lg_cmp_le _ _).mp c7
            have hf := op_t hf c7
            refine lv_iconst (v := 0) hx hb d_Md_isTold_43 (by decide) ?_
            refine lv_istore_n (lv' := [(2, .int 0), (3, .int x3), (0, .ref h_md), (1, .int x1)]) hx hb d_Md_isTold_44 rfl hl (by decide) rfl (fun ls hl => ?_)
            refine lv_iinc (v := x3 + 1) (lv' := [(3, .int (x3 + 1)), (2, .int 0), (0, .ref h_md), (1, .int x1)]) hx hb d_Md_isTold_45 hl (k := 1) rfl rfl (by decide) rfl (fun ls hl => ?_)
            refine lv_goto (tgt := 4) hx hb d_Md_isTold_48 (by decide) ?_
            exact ih_4 x1 0 (x3 + 1) Rl hf _ (lv_sub hl [0, 1, 2, 3] rfl) Kk
          · have c7 := fun h9 => c7 ((lg_cmp_le _ _).mpr h9)
            have hf := op_e hf c7
            refine lv_iconst (v := 1) hx hb d_Md_isTold_39 (by decide) ?_
            refine lv_goto (tgt := 44) hx hb d_Md_isTold_40 (by decide) ?_
            refine lv_istore_n (lv' := [(2, .int 1), (3, .int x3), (0, .ref h_md), (1, .int x1)]) hx hb d_Md_isTold_44 rfl hl (by decide) rfl (fun ls hl => ?_)
            refine lv_iinc (v := x3 + 1) (lv' := [(3, .int (x3 + 1)), (2, .int 1), (0, .ref h_md), (1, .int x1)]) hx hb d_Md_isTold_45 hl (k := 1) rfl rfl (by decide) rfl (fun ls hl => ?_)
            refine lv_goto (tgt := 4) hx hb d_Md_isTold_48 (by decide) ?_
            exact ih_4 x1 1 (x3 + 1) Rl hf _ (lv_sub hl [0, 1, 2, 3] rfl) Kk
  obtain ⟨q1, hq1, hf⟩ := op_b hf
  refine lp_4 fu p1 1 0 q1 hq1 _ (lv_sub hl [0, 1, 2, 3] rfl) ?_
  intro ls hl
  refine lv_iload_n hx hb d_Md_isTold_51 rfl (lv_at hl 1 rfl) ?_
  obtain ⟨hn8, hf⟩ := op_if hf
  obtain rfl := Option.some.inj hf
  subst hQ
  exact W.zret (v := q1.1) (ty := .boolean) hx hb hr (nb_z hn8) (fun t ht hW => ⟨rfl, ht⟩) (fun q h => by cases h) d_Md_isTold_52
def f_Md_go (md : MS) (p1 : Int32) (p2 : Int64) (p3 : Int32) : Option (Unit × MS) := ((if p1 = 0 then some (p2) else (if p1 = 2 then some (-p2) else some (0))) : Option (Int64)).bind fun q2 => if ix (md.1 8) 12 then (some (sL md 9 (vp_updL (md.2.2 9) (md.1 8).toNatClampNeg q2))).bind fun md5 => ((if p1 = 1 then some (p2) else (if p1 = 3 then some (-p2) else some (0))) : Option (Int64)).bind fun q7 => if ix (md5.1 8) 12 then (some (sL md5 10 (vp_updL (md5.2.2 10) (md5.1 8).toNatClampNeg q7))).bind fun md10 => if ix (md10.1 8) 12 then (some (sA md10 19 (upd (md10.2.1 19) (md10.1 8).toNatClampNeg (vp_nar .boolean p3)))).bind fun md12 => (some (sI md12 8 ((md12.1 8) + 1))).bind fun md13 => some ((), md13) else none else none else none
def rm_Md_go : Room := { frames := 0, cells := 0, slots := 0, locals := 0 }
set_option maxHeartbeats 4000000 in
set_option maxRecDepth 100000 in
theorem m_Md_go (l : Launch) (dC : Nat → ClassId) (dI : Nat → Nat → Nat) (tC : Nat → ClassId) (h_md : Nat) (ad_md : Nat → Nat) (md : MS) (p1 : Int32) (p2 : Int64) (p3 : Int32) (R : Unit × MS) (hf : f_Md_go md p1 p2 p3 = some R) (sz : Nat) : Met l y_Md_go w_Md_go rm_Md_go (wrP (dC, dI) tC (w_Md_ h_md ad_md tC md) sz [.ref h_md, .int p1, .long p2, .int p3]) (wrQ (dC, dI) (w_Md_ h_md ad_md tC md) sz (fun r w => r = none ∧ w = (w_Md_ h_md ad_md tC R.2))) 0 0 (va_A (w_Md_ h_md ad_md tC md) sz) := by
  refine Met.ofW (cc := c_Md_go) (maxL := 5) (ret := none) (by decide) rfl ?_
  intro p e s m args below meth c s₁ B hml hv
  obtain ⟨hav, hsz, hP, hK, hD0⟩ := hv
  have hx := B.exec
  have hb := B.bytes
  have hr := B.returns
  have hts : ∀ w ∈ gw, w.before args s = true := fun w h => atoms_spec (ws := w_Md_go) B.pre w (List.mem_cons_of_mem _ h)
  have hown : s.vm.findClass RX9 = some m.cls := findClass_of_methodNamed B.named
  have hlocks := B.notSynchronized
  subst hsz
  have hD := hD0.self (sz := s.heap.size)
  obtain ⟨A, hAe⟩ : ∃ z, z = va_A (w_Md_ h_md ad_md tC md) s.heap.size := ⟨_, rfl⟩
  rw [← hAe] at hD
  have hA : ∀ q : Nat, s.heap.size ≤ q → A q := fun q h => by rw [hAe]; exact Or.inr h
  have hS : va_S A s.heap s.heap [] := va_S.rf
  refine q_w (R := rm_Md_go) (fun Q hQ => ?_)
  refine en_w (av := [.ref h_md, .int p1, .long p2, .int p3]) hav (Nat.le_of_ble_eq_true rfl) (fun ls hl => ?_)
  have hl : lv_has ls 5 [(0, .ref h_md), (1, .int p1), (2, .long p2), (4, .int p3)] := hl
  unfold f_Md_go at hf
  refine lv_aload_n hx hb d_Md_go_0 rfl (lv_at hl 0 rfl) ?_
  refine va_get (D := (dC, dI)) (ci := 9) (v := .ref (ad_md 28)) (C := RX9) (T := TX9) (N := 46) hx hb hts in_X9 hown hK hP 0 rfl rfl 37 (by decide) (hts _ kF_9_96) (fun _ h9 => h9) rfl d_Md_go_1 ?_
  refine lv_aload_n hx hb d_Md_go_4 rfl (lv_at hl 0 rfl) ?_
  refine va_get (D := (dC, dI)) (ci := 9) (v := .int (md.1 8)) (C := RX9) (T := TX9) (N := 46) hx hb hts in_X9 hown hK hP 0 rfl rfl 36 (by decide) (hts _ kF_9_224) (fun _ h9 => h9) rfl d_Md_go_5 ?_
  refine lv_iload_n hx hb d_Md_go_8 rfl (lv_at hl 1 rfl) ?_
  obtain ⟨q2, hq2, hf⟩ := op_b hf
  have J_9 : ∀ (H : Heap) (locs : List Loc), va_P (dC, dI) vwCl (w_Md_ h_md ad_md tC md) H → va_D A (w_Md_ h_md ad_md tC md) → va_S A s.heap H locs → ∀ ls : Array Slot, lv_has ls 5 [(0, .ref h_md), (1, .int p1), (2, .long p2), (4, .int p3)] → W p l e rm_Md_go s m args below meth c H locs 0 0 Q (F0 m 27 ls [.long q2, .int (md.1 8), .ref (ad_md 28)]) := by
    intro H locs hP hD hS ls hl
    obtain ⟨hi4, hf⟩ := op_if hf
    refine va_last (f := md.2.2 9) hx hb hK hP hD hS 29 1 rfl rfl (ix_in hi4) d_Md_go_27 (fun H locs hP hD hS => ?_)
    rw [wu_Md_l9] at hP hD
    obtain ⟨md5, hmd5, hf⟩ := op_b hf
    have hP : va_P (dC, dI) vwCl (w_Md_ h_md ad_md tC md5) H := by rw [← Option.some.inj hmd5]; exact hP
    have hD : va_D A (w_Md_ h_md ad_md tC md5) := by rw [← Option.some.inj hmd5]; exact hD
    refine lv_aload_n hx hb d_Md_go_28 rfl (lv_at hl 0 rfl) ?_
    refine va_get (D := (dC, dI)) (ci := 9) (v := .ref (ad_md 29)) (C := RX9) (T := TX9) (N := 46) hx hb hts in_X9 hown hK hP 0 rfl rfl 38 (by decide) (hts _ kF_9_99) (fun _ h9 => h9) rfl d_Md_go_29 ?_
    refine lv_aload_n hx hb d_Md_go_32 rfl (lv_at hl 0 rfl) ?_
    refine va_get (D := (dC, dI)) (ci := 9) (v := .int (md5.1 8)) (C := RX9) (T := TX9) (N := 46) hx hb hts in_X9 hown hK hP 0 rfl rfl 36 (by decide) (hts _ kF_9_224) (fun _ h9 => h9) rfl d_Md_go_33 ?_
    refine lv_iload_n hx hb d_Md_go_36 rfl (lv_at hl 1 rfl) ?_
    refine lv_iconst (v := 1) hx hb d_Md_go_37 (by decide) ?_
    obtain ⟨q7, hq7, hf⟩ := op_b hf
    have J_38 : ∀ (H : Heap) (locs : List Loc), va_P (dC, dI) vwCl (w_Md_ h_md ad_md tC md5) H → va_D A (w_Md_ h_md ad_md tC md5) → va_S A s.heap H locs → ∀ ls : Array Slot, lv_has ls 5 [(0, .ref h_md), (1, .int p1), (2, .long p2), (4, .int p3)] → W p l e rm_Md_go s m args below meth c H locs 0 0 Q (F0 m 56 ls [.long q7, .int (md5.1 8), .ref (ad_md 29)]) := by
      intro H locs hP hD hS ls hl
      obtain ⟨hi9, hf⟩ := op_if hf
      refine va_last (f := md5.2.2 10) hx hb hK hP hD hS 30 1 rfl rfl (ix_in hi9) d_Md_go_56 (fun H locs hP hD hS => ?_)
      rw [wu_Md_l10] at hP hD
      obtain ⟨md10, hmd10, hf⟩ := op_b hf
      have hP : va_P (dC, dI) vwCl (w_Md_ h_md ad_md tC md10) H := by rw [← Option.some.inj hmd10]; exact hP
      have hD : va_D A (w_Md_ h_md ad_md tC md10) := by rw [← Option.some.inj hmd10]; exact hD
      refine lv_aload_n hx hb d_Md_go_57 rfl (lv_at hl 0 rfl) ?_
      refine va_get (D := (dC, dI)) (ci := 9) (v := .ref (ad_md 30)) (C := RX9) (T := TX9) (N := 46) hx hb hts in_X9 hown hK hP 0 rfl rfl 39 (by decide) (hts _ kF_9_102) (fun _ h9 => h9) rfl d_Md_go_58 ?_
      refine lv_aload_n hx hb d_Md_go_61 rfl (lv_at hl 0 rfl) ?_
      refine va_get (D := (dC, dI)) (ci := 9) (v := .int (md10.1 8)) (C := RX9) (T := TX9) (N := 46) hx hb hts in_X9 hown hK hP 0 rfl rfl 36 (by decide) (hts _ kF_9_224) (fun _ h9 => h9) rfl d_Md_go_62 ?_
      refine lv_iload hx hb d_Md_go_65 (lv_at hl 3 rfl) ?_
      obtain ⟨hi11, hf⟩ := op_if hf
      refine va_zast (f := md10.2.1 19) hx hb hK hP hD hS 31 3 rfl rfl (ix_in hi11) d_Md_go_67 (fun H locs hP hD hS => ?_)
      rw [wu_Md_a19] at hP hD
      obtain ⟨md12, hmd12, hf⟩ := op_b hf
      have hP : va_P (dC, dI) vwCl (w_Md_ h_md ad_md tC md12) H := by rw [← Option.some.inj hmd12]; exact hP
      have hD : va_D A (w_Md_ h_md ad_md tC md12) := by rw [← Option.some.inj hmd12]; exact hD
      refine lv_aload_n hx hb d_Md_go_68 rfl (lv_at hl 0 rfl) ?_
      refine lv_dup hx hb d_Md_go_69 rfl ?_
      refine va_get (D := (dC, dI)) (ci := 9) (v := .int (md12.1 8)) (C := RX9) (T := TX9) (N := 46) hx hb hts in_X9 hown hK hP 0 rfl rfl 36 (by decide) (hts _ kF_9_224) (fun _ h9 => h9) rfl d_Md_go_70 ?_
      refine lv_iconst (v := 1) hx hb d_Md_go_73 (by decide) ?_
      refine lv_iadd hx hb d_Md_go_74 ?_
      refine va_put (D := (dC, dI)) (ci := 9) (v := .int ((md12.1 8) + 1)) (ty := .int) (C := RX9) (T := TX9) (N := 46) hx hb hts in_X9 tyX9 tyX9_ok nmX9 hown hK hP hD hS 0 (fs := [.ref (ad_md 0), .int (md12.1 0), .int (md12.1 1), .ref (ad_md 1), .ref (ad_md 2), .ref (ad_md 3), .int (md12.1 2), .ref (ad_md 4), .ref (ad_md 5), .ref (ad_md 6), .ref (ad_md 7), .ref (ad_md 8), .ref (ad_md 9), .ref (ad_md 10), .ref (ad_md 11), .ref (ad_md 12), .ref (ad_md 13), .ref (ad_md 14), .ref (ad_md 15), .int (md12.1 3), .ref (ad_md 16), .ref (ad_md 17), .ref (ad_md 18), .ref (ad_md 19), .ref (ad_md 20), .ref (ad_md 21), .ref (ad_md 22), .int (md12.1 4), .int (md12.1 5), .ref (ad_md 23), .ref (ad_md 24), .ref (ad_md 25), .ref (ad_md 26), .ref (ad_md 27), .int (md12.1 6), .int (md12.1 7), .int (md12.1 8), .ref (ad_md 28), .ref (ad_md 29), .ref (ad_md 30), .ref (ad_md 31), .ref (ad_md 32), .ref (ad_md 33), .ref (ad_md 34), .ref (ad_md 35), .int (md12.1 9)]) rfl rfl 36 (by decide) (hts _ kF_9_224) (fun _ h9 => h9) rfl (by decide +kernel) (rfl) (rfl) (Nat.le_of_ble_eq_true rfl) d_Md_go_75 (fun H locs hP hD hS => ?_)
      rw [wu_Md_s8] at hP hD
      obtain ⟨md13, hmd13, hf⟩ := op_b hf
      have hP : va_P (dC, dI) vwCl (w_Md_ h_md ad_md tC md13) H := by rw [← Option.some.inj hmd13]; exact hP
      have hD : va_D A (w_Md_ h_md ad_md tC md13) := by rw [← Option.some.inj hmd13]; exact hD
      obtain rfl := Option.some.inj hf
      subst hQ
      subst hAe
      exact W.vret hx hb hr (fun t ht hW => ⟨⟨_, _, rfl, ⟨rfl, rfl⟩, by rw [ht]; exact hP, hD⟩, hS.F ht⟩) hS.2.2 d_Md_go_78
    clear hf
    have hf := hq7
    clear hq7
    refine lv_icmp_ne (tgt := 45) hx hb d_Md_go_38 (by decide) (fun c6 => ?_) (fun c6 => ?_)
    · have hf := op_e hf c6
      refine lv_iload_n hx hb d_Md_go_45 rfl (lv_at hl 1 rfl) ?_
      refine lv_iconst (v := 3) hx hb d_Md_go_46 (by decide) ?_
      refine lv_icmp_ne (tgt := 55) hx hb d_Md_go_47 (by decide) (fun c8 => ?_) (fun c8 => ?_)
      · have hf := op_e hf c8
        refine lv_lconst (v := 0) hx hb d_Md_go_55 (by decide) ?_
        obtain rfl := Option.some.inj hf
        exact J_38 _ _ hP hD hS _ (lv_sub hl [0, 1, 2, 3] rfl)
      · have hf := op_t hf c8
        refine lv_lload_n hx hb d_Md_go_50 rfl (lv_at hl 2 rfl) ?_
        refine lv_lneg hx hb d_Md_go_51 ?_
        refine lv_goto (tgt := 56) hx hb d_Md_go_52 (by decide) ?_
        obtain rfl := Option.some.inj hf
        exact J_38 _ _ hP hD hS _ (lv_sub hl [0, 1, 2, 3] rfl)
    · have hf := op_t hf c6
      refine lv_lload_n hx hb d_Md_go_41 rfl (lv_at hl 2 rfl) ?_
      refine lv_goto (tgt := 56) hx hb d_Md_go_42 (by decide) ?_
      obtain rfl := Option.some.inj hf
      exact J_38 _ _ hP hD hS _ (lv_sub hl [0, 1, 2, 3] rfl)
  clear hf
  have hf := hq2
  clear hq2
  refine lv_if_ne (tgt := 16) hx hb d_Md_go_9 (by decide) (fun c1 => ?_) (fun c1 => ?_)
  · have hf := op_e hf c1
    refine lv_iload_n hx hb d_Md_go_16 rfl (lv_at hl 1 rfl) ?_
    refine lv_iconst (v := 2) hx hb d_Md_go_17 (by decide) ?_
    refine lv_icmp_ne (tgt := 26) hx hb d_Md_go_18 (by decide) (fun c3 => ?_) (fun c3 => ?_)
    · have hf := op_e hf c3
      refine lv_lconst (v := 0) hx hb d_Md_go_26 (by decide) ?_
      obtain rfl := Option.some.inj hf
      exact J_9 _ _ hP hD hS _ (lv_sub hl [0, 1, 2, 3] rfl)
    · have hf := op_t hf c3
      refine lv_lload_n hx hb d_Md_go_21 rfl (lv_at hl 2 rfl) ?_
      refine lv_lneg hx hb d_Md_go_22 ?_
      refine lv_goto (tgt := 27) hx hb d_Md_go_23 (by decide) ?_
      obtain rfl := Option.some.inj hf
      exact J_9 _ _ hP hD hS _ (lv_sub hl [0, 1, 2, 3] rfl)
  · have hf := op_t hf c1
    refine lv_lload_n hx hb d_Md_go_12 rfl (lv_at hl 2 rfl) ?_
    refine lv_goto (tgt := 27) hx hb d_Md_go_13 (by decide) ?_
    obtain rfl := Option.some.inj hf
    exact J_9 _ _ hP hD hS _ (lv_sub hl [0, 1, 2, 3] rfl)
def l_Md_draw_9 : Nat → Int32 → Int32 → Int32 → MS → Option (Int32 × Int32 × MS)
  | 0, _, _, _, _ => none
  | n + 1, x1, x2, x3, md => if ix x1 12 then if ix ((md.2.1 3) x1.toNatClampNeg) 10 then (if ((md.2.1 1) ((md.2.1 3) x1.toNatClampNeg).toNatClampNeg) ≤ x3 then some (x2, x3, md) else ((if x3 = 0 then some (0) else if ix x1 12 then if ix (((6 * ((md.2.1 3) x1.toNatClampNeg)) + x3) - 1) 60 then some ((md.2.1 2) (((6 * ((md.2.1 3) x1.toNatClampNeg)) + x3) - 1).toNatClampNeg) else none else none) : Option (Int32)).bind fun q7 => ((if q7 = 3 then if ix x1 12 then (f_Md_go md ((x2 + 1) &&& 3) (3 * (((md.2.1 4) x1.toNatClampNeg).toInt64)) 0).bind fun q13 => some (q13.2) else none else some (md)) : Option (MS)).bind fun q11 => ((if q7 = 1 then some (1) else (if q7 = 2 then some (3) else (if q7 = 3 then some (2) else some (0)))) : Option (Int32)).bind fun q15 => (some ((x2 + q15) &&& 3) : Option Int32).bind fun v18 => if ix ((6 * x1) + x3) 72 then (f_Md_go q11 v18 ((q11.2.2 1) ((6 * x1) + x3).toNatClampNeg) 1).bind fun q20 => l_Md_draw_9 n x1 v18 (x3 + 1) q20.2 else none) else none else none
def f_Md_draw (md : MS) (p1 : Int32) : Option (Unit × MS) := (some (sI md 8 0)).bind fun md1 => (l_Md_draw_9 fu p1 0 0 md1).bind fun q2 => some ((), q2.2.2)
def rm_Md_draw : Room := { frames := 1, cells := 0, slots := 0, locals := 24 }
set_option maxHeartbeats 4000000 in
set_option maxRecDepth 100000 in
theorem m_Md_draw (l : Launch) (dC : Nat → ClassId) (dI : Nat → Nat → Nat) (tC : Nat → ClassId) (h_md : Nat) (ad_md : Nat → Nat) (md : MS) (p1 : Int32) (R : Unit × MS) (hf : f_Md_draw md p1 = some R) (sz : Nat) : Met l y_Md_draw w_Md_draw rm_Md_draw (wrP (dC, dI) tC (w_Md_ h_md ad_md tC md) sz [.ref h_md, .int p1]) (wrQ (dC, dI) (w_Md_ h_md ad_md tC md) sz (fun r w => r = none ∧ w = (w_Md_ h_md ad_md tC R.2))) 0 0 (va_A (w_Md_ h_md ad_md tC md) sz) := by
  refine Met.ofW (cc := c_Md_draw) (maxL := 5) (ret := none) (by decide) rfl ?_
  intro p e s m args below meth c s₁ B hml hv
  obtain ⟨hav, hsz, hP, hK, hD0⟩ := hv
  have hx := B.exec
  have hb := B.bytes
  have hr := B.returns
  have hts : ∀ w ∈ gw, w.before args s = true := fun w h => atoms_spec (ws := w_Md_draw) B.pre w (List.mem_cons_of_mem _ h)
  have hown : s.vm.findClass RX9 = some m.cls := findClass_of_methodNamed B.named
  have hlocks := B.notSynchronized
  subst hsz
  have hD := hD0.self (sz := s.heap.size)
  obtain ⟨A, hAe⟩ : ∃ z, z = va_A (w_Md_ h_md ad_md tC md) s.heap.size := ⟨_, rfl⟩
  rw [← hAe] at hD
  have hA : ∀ q : Nat, s.heap.size ≤ q → A q := fun q h => by rw [hAe]; exact Or.inr h
  have hS : va_S A s.heap s.heap [] := va_S.rf
  refine q_w (R := rm_Md_draw) (fun Q hQ => ?_)
  refine en_w (av := [.ref h_md, .int p1]) hav (Nat.le_of_ble_eq_true rfl) (fun ls hl => ?_)
  have hl : lv_has ls 5 [(0, .ref h_md), (1, .int p1)] := hl
  unfold f_Md_draw at hf
  refine lv_aload_n hx hb d_Md_draw_0 rfl (lv_at hl 0 rfl) ?_
  refine lv_iconst (v := 0) hx hb d_Md_draw_1 (by decide) ?_
  refine va_put (D := (dC, dI)) (ci := 9) (v := .int 0) (ty := .int) (C := RX9) (T := TX9) (N := 46) hx hb hts in_X9 tyX9 tyX9_ok nmX9 hown hK hP hD hS 0 (fs := [.ref (ad_md 0), .int (md.1 0), .int (md.1 1), .ref (ad_md 1), .ref (ad_md 2), .ref (ad_md 3), .int (md.1 2), .ref (ad_md 4), .ref (ad_md 5), .ref (ad_md 6), .ref (ad_md 7), .ref (ad_md 8), .ref (ad_md 9), .ref (ad_md 10), .ref (ad_md 11), .ref (ad_md 12), .ref (ad_md 13), .ref (ad_md 14), .ref (ad_md 15), .int (md.1 3), .ref (ad_md 16), .ref (ad_md 17), .ref (ad_md 18), .ref (ad_md 19), .ref (ad_md 20), .ref (ad_md 21), .ref (ad_md 22), .int (md.1 4), .int (md.1 5), .ref (ad_md 23), .ref (ad_md 24), .ref (ad_md 25), .ref (ad_md 26), .ref (ad_md 27), .int (md.1 6), .int (md.1 7), .int (md.1 8), .ref (ad_md 28), .ref (ad_md 29), .ref (ad_md 30), .ref (ad_md 31), .ref (ad_md 32), .ref (ad_md 33), .ref (ad_md 34), .ref (ad_md 35), .int (md.1 9)]) rfl rfl 36 (by decide) (hts _ kF_9_224) (fun _ h9 => h9) rfl (by decide +kernel) (rfl) (rfl) (Nat.le_of_ble_eq_true rfl) d_Md_draw_2 (fun H locs hP hD hS => ?_)
  rw [wu_Md_s8] at hP hD
  obtain ⟨md1, hmd1, hf⟩ := op_b hf
  have hP : va_P (dC, dI) vwCl (w_Md_ h_md ad_md tC md1) H := by rw [← Option.some.inj hmd1]; exact hP
  have hD : va_D A (w_Md_ h_md ad_md tC md1) := by rw [← Option.some.inj hmd1]; exact hD
  refine lv_iconst (v := 0) hx hb d_Md_draw_5 (by decide) ?_
  refine lv_istore_n (lv' := [(2, .int 0), (0, .ref h_md), (1, .int p1)]) hx hb d_Md_draw_6 rfl hl (by decide) rfl (fun ls hl => ?_)
  refine lv_iconst (v := 0) hx hb d_Md_draw_7 (by decide) ?_
  refine lv_istore_n (lv' := [(3, .int 0), (2, .int 0), (0, .ref h_md), (1, .int p1)]) hx hb d_Md_draw_8 rfl hl (by decide) rfl (fun ls hl => ?_)
  have lp_9 : ∀ (n : Nat) (x1 : Int32) (x2 : Int32) (x3 : Int32) (md : MS) (Rl : Int32 × Int32 × MS), l_Md_draw_9 n x1 x2 x3 md = some Rl → ∀ (H : Heap) (locs : List Loc), va_P (dC, dI) vwCl (w_Md_ h_md ad_md tC md) H → va_D A (w_Md_ h_md ad_md tC md) → va_S A s.heap H locs → ∀ ls : Array Slot, lv_has ls 5 [(3, .int x3), (2, .int x2), (0, .ref h_md), (1, .int x1)] → (∀ (H : Heap) (locs : List Loc), va_P (dC, dI) vwCl (w_Md_ h_md ad_md tC Rl.2.2) H → va_D A (w_Md_ h_md ad_md tC Rl.2.2) → va_S A s.heap H locs → ∀ ls : Array Slot, lv_has ls 5 [(3, .int Rl.2.1), (2, .int Rl.1), (0, .ref h_md), (1, .int x1)] → W p l e rm_Md_draw s m args below meth c H locs 0 0 Q (F0 m 138 ls [])) → W p l e rm_Md_draw s m args below meth c H locs 0 0 Q (F0 m 9 ls []) := by
    intro n
    induction n with
    | zero => intro x1 x2 x3 md Rl hf; cases hf
    | succ n ih_9 =>
      intro x1 x2 x3 md Rl hf H locs hP hD hS ls hl Kk
      rw [l_Md_draw_9] at hf
      refine lv_iload_n hx hb d_Md_draw_9 rfl (lv_at hl 0 rfl) ?_
      refine lv_aload_n hx hb d_Md_draw_10 rfl (lv_at hl 2 rfl) ?_
      refine va_get (D := (dC, dI)) (ci := 9) (v := .ref (ad_md 1)) (C := RX9) (T := TX9) (N := 46) hx hb hts in_X9 hown hK hP 0 rfl rfl 3 (by decide) (hts _ kF_9_13) (fun _ h9 => h9) rfl d_Md_draw_11 ?_
      refine lv_aload_n hx hb d_Md_draw_14 rfl (lv_at hl 2 rfl) ?_
      refine va_get (D := (dC, dI)) (ci := 9) (v := .ref (ad_md 4)) (C := RX9) (T := TX9) (N := 46) hx hb hts in_X9 hown hK hP 0 rfl rfl 7 (by decide) (hts _ kF_9_23) (fun _ h9 => h9) rfl d_Md_draw_15 ?_
      refine lv_iload_n hx hb d_Md_draw_18 rfl (lv_at hl 3 rfl) ?_
      obtain ⟨hi3, hf⟩ := op_if hf
      refine va_iald (f := md.2.1 3) hx hb hK hP 5 0 rfl rfl (ix_in hi3) d_Md_draw_19 ?_
      obtain ⟨hi4, hf⟩ := op_if hf
      refine va_iald (f := md.2.1 1) hx hb hK hP 2 0 rfl rfl (ix_in hi4) d_Md_draw_20 ?_
      refine lv_icmp_ge (tgt := 138) hx hb d_Md_draw_21 (by decide) (fun c5 => ?_) (fun c5 => ?_)
      · have hf := op_t hf c5
        obtain rfl := Option.some.inj hf
        exact Kk _ _ hP hD hS _ (lv_sub hl [0, 1, 2, 3] rfl)
      · have hf := op_e hf c5
        refine lv_iload_n hx hb d_Md_draw_24 rfl (lv_at hl 0 rfl) ?_
        obtain ⟨q7, hq7, hf⟩ := op_b hf
        have J_25 : ∀ (H : Heap) (locs : List Loc), va_P (dC, dI) vwCl (w_Md_ h_md ad_md tC md) H → va_D A (w_Md_ h_md ad_md tC md) → va_S A s.heap H locs → ∀ ls : Array Slot, lv_has ls 5 [(3, .int x3), (2, .int x2), (0, .ref h_md), (1, .int x1)] → W p l e rm_Md_draw s m args below meth c H locs 0 0 Q (F0 m 50 ls [.int q7]) := by
          intro H locs hP hD hS ls hl
          refine lv_istore (lv' := [(4, .int q7), (3, .int x3), (2, .int x2), (0, .ref h_md), (1, .int x1)]) hx hb d_Md_draw_50 hl (by decide) rfl (fun ls hl => ?_)
          refine lv_iload hx hb d_Md_draw_52 (lv_at hl 0 rfl) ?_
          refine lv_iconst (v := 3) hx hb d_Md_draw_54 (by decide) ?_
          obtain ⟨q11, hq11, hf⟩ := op_b hf
          have J_55 : ∀ (H : Heap) (locs : List Loc), va_P (dC, dI) vwCl (w_Md_ h_md ad_md tC q11) H → va_D A (w_Md_ h_md ad_md tC q11) → va_S A s.heap H locs → ∀ ls : Array Slot, lv_has ls 5 [(4, .int q7), (3, .int x3), (2, .int x2), (0, .ref h_md), (1, .int x1)] → W p l e rm_Md_draw s m args below meth c H locs 0 0 Q (F0 m 79 ls []) := by
            intro H locs hP hD hS ls hl
            refine lv_iload_n hx hb d_Md_draw_79 rfl (lv_at hl 2 rfl) ?_
            refine lv_iload hx hb d_Md_draw_80 (lv_at hl 0 rfl) ?_
            refine lv_iconst (v := 1) hx hb d_Md_draw_82 (by decide) ?_
            obtain ⟨q15, hq15, hf⟩ := op_b hf
            have J_83 : ∀ (H : Heap) (locs : List Loc), va_P (dC, dI) vwCl (w_Md_ h_md ad_md tC q11) H → va_D A (w_Md_ h_md ad_md tC q11) → va_S A s.heap H locs → ∀ ls : Array Slot, lv_has ls 5 [(4, .int q7), (3, .int x3), (2, .int x2), (0, .ref h_md), (1, .int x1)] → W p l e rm_Md_draw s m args below meth c H locs 0 0 Q (F0 m 111 ls [.int q15, .int x2]) := by
              intro H locs hP hD hS ls hl
              refine lv_iadd hx hb d_Md_draw_111 ?_
              refine lv_iconst (v := 3) hx hb d_Md_draw_112 (by decide) ?_
              refine lv_iand hx hb d_Md_draw_113 ?_
              obtain ⟨v18, hv18, hf⟩ := op_b hf
              refine rw_i (y := v18) (Option.some.inj hv18) ?_
              refine lv_istore_n (lv' := [(2, .int v18), (4, .int q7), (3, .int x3), (0, .ref h_md), (1, .int x1)]) hx hb d_Md_draw_114 rfl hl (by decide) rfl (fun ls hl => ?_)
              refine lv_aload_n hx hb d_Md_draw_115 rfl (lv_at hl 3 rfl) ?_
              refine lv_iload_n hx hb d_Md_draw_116 rfl (lv_at hl 0 rfl) ?_
              refine lv_aload_n hx hb d_Md_draw_117 rfl (lv_at hl 3 rfl) ?_
              refine va_get (D := (dC, dI)) (ci := 9) (v := .ref (ad_md 7)) (C := RX9) (T := TX9) (N := 46) hx hb hts in_X9 hown hK hP 0 rfl rfl 10 (by decide) (hts _ kF_9_32) (fun _ h9 => h9) rfl d_Md_draw_118 ?_
              refine lv_bipush (v := 6) hx hb d_Md_draw_121 (by decide) ?_
              refine lv_iload_n hx hb d_Md_draw_123 rfl (lv_at hl 4 rfl) ?_
              refine lv_imul hx hb d_Md_draw_124 ?_
              refine lv_iload_n hx hb d_Md_draw_125 rfl (lv_at hl 2 rfl) ?_
              refine lv_iadd hx hb d_Md_draw_126 ?_
              obtain ⟨hi19, hf⟩ := op_if hf
              refine va_lald (f := q11.2.2 1) hx hb hK hP 8 1 rfl rfl (ix_in hi19) d_Md_draw_127 ?_
              refine lv_iconst (v := 1) hx hb d_Md_draw_128 (by decide) ?_
              obtain ⟨q20, hq20, hf⟩ := op_b hf
              have hPc := hP
              have hDc := hD
              have hFc := va_free (wc := (w_Md_ h_md ad_md tC q11)) hD hS hA [0, 1, 2, 3, 4, 5, 6, 7, 8, 9, 10, 11, 12, 13, 14, 15, 16, 17, 18, 19, 20, 21, 22, 23, 24, 25, 26, 27, 28, 29, 30, 31, 32, 33, 34, 35, 36] rfl
              refine wr_go (va_runV (As := [.int v18, .long ((q11.2.2 1) ((6 * x1) + x3).toNatClampNeg), .int 1]) (rest := []) ⟨hx, hb, hml, hown, hts⟩ (m_Md_go l dC dI tC h_md ad_md q11 v18 ((q11.2.2 1) ((6 * x1) + x3).toNatClampNeg) 1 q20 hq20 _) (cwV 3 hts (gd_V kM_9_229 kI_Md_go kV_Md_go kZ_9 kC_Md_go) rfl rfl rfl (by decide +kernel) ⟨(Nat.le_of_ble_eq_true rfl), (Nat.le_of_ble_eq_true rfl)⟩) ⟨wr_blind, va_recv hK hP (ci := 9) (q0 := 0) rfl rfl, wr_pre hK hPc hDc⟩ rfl rfl hl.1 rfl (lv_room (Nat.le_of_ble_eq_true rfl)) d_Md_draw_129 ⟨(Nat.le_of_ble_eq_true rfl), (Nat.le_of_ble_eq_true rfl)⟩) hS hFc (fun r w1 H1 locs hw hP1 hD1 hk1 hS => ?_)
              obtain ⟨rfl, rfl⟩ := hw
              have hP := hP1
              have hD := hD1.weaken (fun _ q _ h => hFc q.1 h)
              clear hP1 hD1 hk1 hPc hDc hFc
              have hP : va_P (dC, dI) vwCl (w_Md_ h_md ad_md tC q20.2) _ := hP
              have hD : va_D A (w_Md_ h_md ad_md tC q20.2) := hD
              refine W.eq (g2 := F0 m 132 ls []) rfl ?_
              refine lv_iinc (v := x3 + 1) (lv' := [(3, .int (x3 + 1)), (2, .int v18), (4, .int q7), (0, .ref h_md), (1, .int x1)]) hx hb d_Md_draw_132 hl (k := 2) rfl rfl (by decide) rfl (fun ls hl => ?_)
              refine lv_goto (tgt := 9) hx hb d_Md_draw_135 (by decide) ?_
              exact ih_9 x1 v18 (x3 + 1) q20.2 Rl hf _ _ hP hD hS _ (lv_sub hl [0, 1, 3, 4] rfl) Kk
            clear hf
            have hf := hq15
            clear hq15
            refine lv_icmp_ne (tgt := 90) hx hb d_Md_draw_83 (by decide) (fun c14 => ?_) (fun c14 => ?_)
            · have hf := op_e hf c14
              refine lv_iload hx hb d_Md_draw_90 (lv_at hl 0 rfl) ?_
              refine lv_iconst (v := 2) hx hb d_Md_draw_92 (by decide) ?_
              refine lv_icmp_ne (tgt := 100) hx hb d_Md_draw_93 (by decide) (fun c16 => ?_) (fun c16 => ?_)
              · have hf := op_e hf c16
                refine lv_iload hx hb d_Md_draw_100 (lv_at hl 0 rfl) ?_
                refine lv_iconst (v := 3) hx hb d_Md_draw_102 (by decide) ?_
                refine lv_icmp_ne (tgt := 110) hx hb d_Md_draw_103 (by decide) (fun c17 => ?_) (fun c17 => ?_)
                · have hf := op_e hf c17
                  refine lv_iconst (v := 0) hx hb d_Md_draw_110 (by decide) ?_
                  obtain rfl := Option.some.inj hf
                  exact J_83 _ _ hP hD hS _ (lv_sub hl [0, 1, 2, 3, 4] rfl)
                · have hf := op_t hf c17
                  refine lv_iconst (v := 2) hx hb d_Md_draw_106 (by decide) ?_
                  refine lv_goto (tgt := 111) hx hb d_Md_draw_107 (by decide) ?_
                  obtain rfl := Option.some.inj hf
                  exact J_83 _ _ hP hD hS _ (lv_sub hl [0, 1, 2, 3, 4] rfl)
              · have hf := op_t hf c16
                refine lv_iconst (v := 3) hx hb d_Md_draw_96 (by decide) ?_
                refine lv_goto (tgt := 111) hx hb d_Md_draw_97 (by decide) ?_
                obtain rfl := Option.some.inj hf
                exact J_83 _ _ hP hD hS _ (lv_sub hl [0, 1, 2, 3, 4] rfl)
            · have hf := op_t hf c14
              refine lv_iconst (v := 1) hx hb d_Md_draw_86 (by decide) ?_
              refine lv_goto (tgt := 111) hx hb d_Md_draw_87 (by decide) ?_
              obtain rfl := Option.some.inj hf
              exact J_83 _ _ hP hD hS _ (lv_sub hl [0, 1, 2, 3, 4] rfl)
          clear hf
          have hf := hq11
          clear hq11
          refine lv_icmp_ne (tgt := 79) hx hb d_Md_draw_55 (by decide) (fun c10 => ?_) (fun c10 => ?_)
          · have hf := op_e hf c10
            obtain rfl := Option.some.inj hf
            exact J_55 _ _ hP hD hS _ (lv_sub hl [0, 1, 2, 3, 4] rfl)
          · have hf := op_t hf c10
            refine lv_aload_n hx hb d_Md_draw_58 rfl (lv_at hl 3 rfl) ?_
            refine lv_iload_n hx hb d_Md_draw_59 rfl (lv_at hl 2 rfl) ?_
            refine lv_iconst (v := 1) hx hb d_Md_draw_60 (by decide) ?_
            refine lv_iadd hx hb d_Md_draw_61 ?_
            refine lv_iconst (v := 3) hx hb d_Md_draw_62 (by decide) ?_
            refine lv_iand hx hb d_Md_draw_63 ?_
            refine lv_ldc2 (v := 3) hx hb hown (hts _ kK_9_227) d_Md_draw_64 ?_
            refine lv_aload_n hx hb d_Md_draw_67 rfl (lv_at hl 3 rfl) ?_
            refine va_get (D := (dC, dI)) (ci := 9) (v := .ref (ad_md 5)) (C := RX9) (T := TX9) (N := 46) hx hb hts in_X9 hown hK hP 0 rfl rfl 8 (by decide) (hts _ kF_9_26) (fun _ h9 => h9) rfl d_Md_draw_68 ?_
            refine lv_iload_n hx hb d_Md_draw_71 rfl (lv_at hl 4 rfl) ?_
            obtain ⟨hi12, hf⟩ := op_if hf
            refine va_iald (f := md.2.1 4) hx hb hK hP 6 0 rfl rfl (ix_in hi12) d_Md_draw_72 ?_
            refine lv_i2l (v := ((md.2.1 4) x1.toNatClampNeg).toInt64) hx hb d_Md_draw_73 rfl ?_
            refine lv_lmul hx hb d_Md_draw_74 ?_
            refine lv_iconst (v := 0) hx hb d_Md_draw_75 (by decide) ?_
            obtain ⟨q13, hq13, hf⟩ := op_b hf
            have hPc := hP
            have hDc := hD
            have hFc := va_free (wc := (w_Md_ h_md ad_md tC md)) hD hS hA [0, 1, 2, 3, 4, 5, 6, 7, 8, 9, 10, 11, 12, 13, 14, 15, 16, 17, 18, 19, 20, 21, 22, 23, 24, 25, 26, 27, 28, 29, 30, 31, 32, 33, 34, 35, 36] rfl
            refine wr_go (va_runV (As := [.int ((x2 + 1) &&& 3), .long (3 * (((md.2.1 4) x1.toNatClampNeg).toInt64)), .int 0]) (rest := []) ⟨hx, hb, hml, hown, hts⟩ (m_Md_go l dC dI tC h_md ad_md md ((x2 + 1) &&& 3) (3 * (((md.2.1 4) x1.toNatClampNeg).toInt64)) 0 q13 hq13 _) (cwV 3 hts (gd_V kM_9_229 kI_Md_go kV_Md_go kZ_9 kC_Md_go) rfl rfl rfl (by decide +kernel) ⟨(Nat.le_of_ble_eq_true rfl), (Nat.le_of_ble_eq_true rfl)⟩) ⟨wr_blind, va_recv hK hP (ci := 9) (q0 := 0) rfl rfl, wr_pre hK hPc hDc⟩ rfl rfl hl.1 rfl (lv_room (Nat.le_of_ble_eq_true rfl)) d_Md_draw_76 ⟨(Nat.le_of_ble_eq_true rfl), (Nat.le_of_ble_eq_true rfl)⟩) hS hFc (fun r w1 H1 locs hw hP1 hD1 hk1 hS => ?_)
            obtain ⟨rfl, rfl⟩ := hw
            have hP := hP1
            have hD := hD1.weaken (fun _ q _ h => hFc q.1 h)
            clear hP1 hD1 hk1 hPc hDc hFc
            have hP : va_P (dC, dI) vwCl (w_Md_ h_md ad_md tC q13.2) _ := hP
            have hD : va_D A (w_Md_ h_md ad_md tC q13.2) := hD
            refine W.eq (g2 := F0 m 79 ls []) rfl ?_
            obtain rfl := Option.some.inj hf
            exact J_55 _ _ hP hD hS _ (lv_sub hl [0, 1, 2, 3, 4] rfl)
        clear hf
        have hf := hq7
        clear hq7
        refine lv_if_ne (tgt := 32) hx hb d_Md_draw_25 (by decide) (fun c6 => ?_) (fun c6 => ?_)
        · have hf := op_e hf c6
          refine lv_aload_n hx hb d_Md_draw_32 rfl (lv_at hl 2 rfl) ?_
          refine va_get (D := (dC, dI)) (ci := 9) (v := .ref (ad_md 2)) (C := RX9) (T := TX9) (N := 46) hx hb hts in_X9 hown hK hP 0 rfl rfl 4 (by decide) (hts _ kF_9_16) (fun _ h9 => h9) rfl d_Md_draw_33 ?_
          refine lv_bipush (v := 6) hx hb d_Md_draw_36 (by decide) ?_
          refine lv_aload_n hx hb d_Md_draw_38 rfl (lv_at hl 2 rfl) ?_
          refine va_get (D := (dC, dI)) (ci := 9) (v := .ref (ad_md 4)) (C := RX9) (T := TX9) (N := 46) hx hb hts in_X9 hown hK hP 0 rfl rfl 7 (by decide) (hts _ kF_9_23) (fun _ h9 => h9) rfl d_Md_draw_39 ?_
          refine lv_iload_n hx hb d_Md_draw_42 rfl (lv_at hl 3 rfl) ?_
          obtain ⟨hi8, hf⟩ := op_if hf
          refine va_iald (f := md.2.1 3) hx hb hK hP 5 0 rfl rfl (ix_in hi8) d_Md_draw_43 ?_
          refine lv_imul hx hb d_Md_draw_44 ?_
          refine lv_iload_n hx hb d_Md_draw_45 rfl (lv_at hl 0 rfl) ?_
          refine lv_iadd hx hb d_Md_draw_46 ?_
          refine lv_iconst (v := 1) hx hb d_Md_draw_47 (by decide) ?_
          refine lv_isub hx hb d_Md_draw_48 ?_
          obtain ⟨hi9, hf⟩ := op_if hf
          refine va_iald (f := md.2.1 2) hx hb hK hP 3 0 rfl rfl (ix_in hi9) d_Md_draw_49 ?_
          obtain rfl := Option.some.inj hf
          exact J_25 _ _ hP hD hS _ (lv_sub hl [0, 1, 2, 3] rfl)
        · have hf := op_t hf c6
          refine lv_iconst (v := 0) hx hb d_Md_draw_28 (by decide) ?_
          refine lv_goto (tgt := 50) hx hb d_Md_draw_29 (by decide) ?_
          obtain rfl := Option.some.inj hf
          exact J_25 _ _ hP hD hS _ (lv_sub hl [0, 1, 2, 3] rfl)
  obtain ⟨q2, hq2, hf⟩ := op_b hf
  refine lp_9 fu p1 0 0 md1 q2 hq2 _ _ hP hD hS _ (lv_sub hl [0, 1, 2, 3] rfl) ?_
  intro H locs hP hD hS ls hl
  obtain rfl := Option.some.inj hf
  subst hQ
  subst hAe
  exact W.vret hx hb hr (fun t ht hW => ⟨⟨_, _, rfl, ⟨rfl, rfl⟩, by rw [ht]; exact hP, hD⟩, hS.F ht⟩) hS.2.2 d_Md_draw_138
def f_Md_command (md : MS) (p1 : Int32) (p2 : Int32) : Option (Int32 × MS) := (f_Md_isLine md p1).bind fun q1 => (if q1 = 0 then some ((-1), md) else (f_Md_isTold md p1).bind fun q3 => (if q3 = 0 then some ((-1), md) else (f_Md_draw md p1).bind fun q5 => (if p2 < 0 then some ((-1), q5.2) else (if p2 < (2 * (q5.2.1 8)) then (if (p2 - p2 / 2 * 2) = 0 then if ix (p2 / 2) 12 then some (((q5.2.2.2 9) (p2 / 2).toNatClampNeg).toInt32, q5.2) else none else if ix (p2 / 2) 12 then some (((q5.2.2.2 10) (p2 / 2).toNatClampNeg).toInt32, q5.2) else none) else some ((-1), q5.2)))))
def rm_Md_command : Room := { frames := 2, cells := 0, slots := 0, locals := 48 }
set_option maxHeartbeats 4000000 in
set_option maxRecDepth 100000 in
theorem m_Md_command (l : Launch) (dC : Nat → ClassId) (dI : Nat → Nat → Nat) (tC : Nat → ClassId) (h_md : Nat) (ad_md : Nat → Nat) (md : MS) (p1 : Int32) (p2 : Int32) (R : Int32 × MS) (hf : f_Md_command md p1 p2 = some R) (sz : Nat) : Met l y_Md_command w_Md_command rm_Md_command (wrP (dC, dI) tC (w_Md_ h_md ad_md tC md) sz [.ref h_md, .int p1, .int p2]) (wrQ (dC, dI) (w_Md_ h_md ad_md tC md) sz (fun r w => r = (some (.int R.1)) ∧ w = (w_Md_ h_md ad_md tC R.2))) 0 0 (va_A (w_Md_ h_md ad_md tC md) sz) := by
  refine Met.ofW (cc := c_Md_command) (maxL := 3) (ret := (some (.int))) (by decide) rfl ?_
  intro p e s m args below meth c s₁ B hml hv
  obtain ⟨hav, hsz, hP, hK, hD0⟩ := hv
  have hx := B.exec
  have hb := B.bytes
  have hr := B.returns
  have hts : ∀ w ∈ gw, w.before args s = true := fun w h => atoms_spec (ws := w_Md_command) B.pre w (List.mem_cons_of_mem _ h)
  have hown : s.vm.findClass RX9 = some m.cls := findClass_of_methodNamed B.named
  have hlocks := B.notSynchronized
  subst hsz
  have hD := hD0.self (sz := s.heap.size)
  obtain ⟨A, hAe⟩ : ∃ z, z = va_A (w_Md_ h_md ad_md tC md) s.heap.size := ⟨_, rfl⟩
  rw [← hAe] at hD
  have hA : ∀ q : Nat, s.heap.size ≤ q → A q := fun q h => by rw [hAe]; exact Or.inr h
  have hS : va_S A s.heap s.heap [] := va_S.rf
  refine q_w (R := rm_Md_command) (fun Q hQ => ?_)
  refine en_w (av := [.ref h_md, .int p1, .int p2]) hav (Nat.le_of_ble_eq_true rfl) (fun ls hl => ?_)
  have hl : lv_has ls 3 [(0, .ref h_md), (1, .int p1), (2, .int p2)] := hl
  unfold f_Md_command at hf
  refine lv_aload_n hx hb d_Md_command_0 rfl (lv_at hl 0 rfl) ?_
  refine lv_iload_n hx hb d_Md_command_1 rfl (lv_at hl 1 rfl) ?_
  obtain ⟨q1, hq1, hf⟩ := op_b hf
  refine ro_go rfl (va_runV (As := [.int p1]) (rest := []) ⟨hx, hb, hml, hown, hts⟩ (m_Md_isLine l dC dI tC h_md ad_md md p1 q1 _ hP hq1) (cwV 1 hts (gd_V kM_9_154 kI_Md_isLine kV_Md_isLine kZ_9 kC_Md_isLine) rfl rfl rfl (by decide +kernel) ⟨(Nat.le_of_ble_eq_true rfl), (Nat.le_of_ble_eq_true rfl)⟩) ⟨ro_blind, va_recv hK hP (ci := 9) (q0 := 0) rfl rfl, ro_pre hK⟩ rfl rfl hl.1 rfl (lv_room (Nat.le_of_ble_eq_true rfl)) d_Md_command_2 ⟨(Nat.le_of_ble_eq_true rfl), (Nat.le_of_ble_eq_true rfl)⟩) ?_
  refine W.eq (g2 := F0 m 5 ls [.int q1]) rfl ?_
  refine lv_if_eq (tgt := 16) hx hb d_Md_command_5 (by decide) (fun c2 => ?_) (fun c2 => ?_)
  · have hf := op_t hf c2
    refine lv_iconst (v := (-1)) hx hb d_Md_command_16 (by decide) ?_
    obtain rfl := Option.some.inj hf
    subst hQ
    subst hAe
    exact W.iret (v := (-1)) hx hb hr (fun t ht hW => ⟨⟨_, _, rfl, ⟨rfl, rfl⟩, by rw [ht]; exact hP, hD⟩, hS.F ht⟩) hS.2.2 d_Md_command_17
  · have hf := op_e hf c2
    refine lv_aload_n hx hb d_Md_command_8 rfl (lv_at hl 0 rfl) ?_
    refine lv_iload_n hx hb d_Md_command_9 rfl (lv_at hl 1 rfl) ?_
    obtain ⟨q3, hq3, hf⟩ := op_b hf
    refine ro_go rfl (va_runV (As := [.int p1]) (rest := []) ⟨hx, hb, hml, hown, hts⟩ (m_Md_isTold l dC dI tC h_md ad_md md p1 q3 _ hP hq3) (cwV 1 hts (gd_V kM_9_233 kI_Md_isTold kV_Md_isTold kZ_9 kC_Md_isTold) rfl rfl rfl (by decide +kernel) ⟨(Nat.le_of_ble_eq_true rfl), (Nat.le_of_ble_eq_true rfl)⟩) ⟨ro_blind, va_recv hK hP (ci := 9) (q0 := 0) rfl rfl, ro_pre hK⟩ rfl rfl hl.1 rfl (lv_room (Nat.le_of_ble_eq_true rfl)) d_Md_command_10 ⟨(Nat.le_of_ble_eq_true rfl), (Nat.le_of_ble_eq_true rfl)⟩) ?_
    refine W.eq (g2 := F0 m 13 ls [.int q3]) rfl ?_
    refine lv_if_ne (tgt := 18) hx hb d_Md_command_13 (by decide) (fun c4 => ?_) (fun c4 => ?_)
    · have hf := op_e hf c4
      refine lv_aload_n hx hb d_Md_command_18 rfl (lv_at hl 0 rfl) ?_
      refine lv_iload_n hx hb d_Md_command_19 rfl (lv_at hl 1 rfl) ?_
      obtain ⟨q5, hq5, hf⟩ := op_b hf
      have hPc := hP
      have hDc := hD
      have hFc := va_free (wc := (w_Md_ h_md ad_md tC md)) hD hS hA [0, 1, 2, 3, 4, 5, 6, 7, 8, 9, 10, 11, 12, 13, 14, 15, 16, 17, 18, 19, 20, 21, 22, 23, 24, 25, 26, 27, 28, 29, 30, 31, 32, 33, 34, 35, 36] rfl
      refine wr_go (va_runV (As := [.int p1]) (rest := []) ⟨hx, hb, hml, hown, hts⟩ (m_Md_draw l dC dI tC h_md ad_md md p1 q5 hq5 _) (cwV 1 hts (gd_V kM_9_236 kI_Md_draw kV_Md_draw kZ_9 kC_Md_draw) rfl rfl rfl (by decide +kernel) ⟨(Nat.le_of_ble_eq_true rfl), (Nat.le_of_ble_eq_true rfl)⟩) ⟨wr_blind, va_recv hK hP (ci := 9) (q0 := 0) rfl rfl, wr_pre hK hPc hDc⟩ rfl rfl hl.1 rfl (lv_room (Nat.le_of_ble_eq_true rfl)) d_Md_command_20 ⟨(Nat.le_of_ble_eq_true rfl), (Nat.le_of_ble_eq_true rfl)⟩) hS hFc (fun r w1 H1 locs hw hP1 hD1 hk1 hS => ?_)
      obtain ⟨rfl, rfl⟩ := hw
      have hP := hP1
      have hD := hD1.weaken (fun _ q _ h => hFc q.1 h)
      clear hP1 hD1 hk1 hPc hDc hFc
      have hP : va_P (dC, dI) vwCl (w_Md_ h_md ad_md tC q5.2) _ := hP
      have hD : va_D A (w_Md_ h_md ad_md tC q5.2) := hD
      refine W.eq (g2 := F0 m 23 ls []) rfl ?_
      refine lv_iload_n hx hb d_Md_command_23 rfl (lv_at hl 2 rfl) ?_
      refine lv_if_lt (tgt := 37) hx hb d_Md_command_24 (by decide) (fun c6 => ?_) (fun c6 => ?_)
      · have hf := op_t hf c6
        refine lv_iconst (v := (-1)) hx hb d_Md_command_37 (by decide) ?_
        obtain rfl := Option.some.inj hf
        subst hQ
        subst hAe
        exact W.iret (v := (-1)) hx hb hr (fun t ht hW => ⟨⟨_, _, rfl, ⟨rfl, rfl⟩, by rw [ht]; exact hP, hD⟩, hS.F ht⟩) hS.2.2 d_Md_command_38
      · have hf := op_e hf c6
        refine lv_iload_n hx hb d_Md_command_27 rfl (lv_at hl 2 rfl) ?_
        refine lv_iconst (v := 2) hx hb d_Md_command_28 (by decide) ?_
        refine lv_aload_n hx hb d_Md_command_29 rfl (lv_at hl 0 rfl) ?_
        refine va_get (D := (dC, dI)) (ci := 9) (v := .int (q5.2.1 8)) (C := RX9) (T := TX9) (N := 46) hx hb hts in_X9 hown hK hP 0 rfl rfl 36 (by decide) (hts _ kF_9_224) (fun _ h9 => h9) rfl d_Md_command_30 ?_
        refine lv_imul hx hb d_Md_command_33 ?_
        refine lv_icmp_lt (tgt := 39) hx hb d_Md_command_34 (by decide) (fun c7 => ?_) (fun c7 => ?_)
        · have hf := op_t hf c7
          refine lv_iload_n hx hb d_Md_command_39 rfl (lv_at hl 2 rfl) ?_
          refine lv_iconst (v := 2) hx hb d_Md_command_40 (by decide) ?_
          refine lv_irem hx hb d_Md_command_41 (by decide) ?_
          refine lv_if_ne (tgt := 56) hx hb d_Md_command_42 (by decide) (fun c8 => ?_) (fun c8 => ?_)
          · have hf := op_e hf c8
            refine lv_aload_n hx hb d_Md_command_56 rfl (lv_at hl 0 rfl) ?_
            refine va_get (D := (dC, dI)) (ci := 9) (v := .ref (ad_md 29)) (C := RX9) (T := TX9) (N := 46) hx hb hts in_X9 hown hK hP 0 rfl rfl 38 (by decide) (hts _ kF_9_99) (fun _ h9 => h9) rfl d_Md_command_57 ?_
            refine lv_iload_n hx hb d_Md_command_60 rfl (lv_at hl 2 rfl) ?_
            refine lv_iconst (v := 2) hx hb d_Md_command_61 (by decide) ?_
            refine lv_idiv hx hb d_Md_command_62 (by decide) ?_
            obtain ⟨hi10, hf⟩ := op_if hf
            refine va_lald (f := q5.2.2.2 10) hx hb hK hP 30 1 rfl rfl (ix_in hi10) d_Md_command_63 ?_
            refine lv_l2i (v := ((q5.2.2.2 10) (p2 / 2).toNatClampNeg).toInt32) hx hb d_Md_command_64 rfl ?_
            obtain rfl := Option.some.inj hf
            subst hQ
            subst hAe
            exact W.iret (v := ((q5.2.2.2 10) (p2 / 2).toNatClampNeg).toInt32) hx hb hr (fun t ht hW => ⟨⟨_, _, rfl, ⟨rfl, rfl⟩, by rw [ht]; exact hP, hD⟩, hS.F ht⟩) hS.2.2 d_Md_command_65
          · have hf := op_t hf c8
            refine lv_aload_n hx hb d_Md_command_45 rfl (lv_at hl 0 rfl) ?_
            refine va_get (D := (dC, dI)) (ci := 9) (v := .ref (ad_md 28)) (C := RX9) (T := TX9) (N := 46) hx hb hts in_X9 hown hK hP 0 rfl rfl 37 (by decide) (hts _ kF_9_96) (fun _ h9 => h9) rfl d_Md_command_46 ?_
            refine lv_iload_n hx hb d_Md_command_49 rfl (lv_at hl 2 rfl) ?_
            refine lv_iconst (v := 2) hx hb d_Md_command_50 (by decide) ?_
            refine lv_idiv hx hb d_Md_command_51 (by decide) ?_
            obtain ⟨hi9, hf⟩ := op_if hf
            refine va_lald (f := q5.2.2.2 9) hx hb hK hP 29 1 rfl rfl (ix_in hi9) d_Md_command_52 ?_
            refine lv_goto (tgt := 64) hx hb d_Md_command_53 (by decide) ?_
            refine lv_l2i (v := ((q5.2.2.2 9) (p2 / 2).toNatClampNeg).toInt32) hx hb d_Md_command_64 rfl ?_
            obtain rfl := Option.some.inj hf
            subst hQ
            subst hAe
            exact W.iret (v := ((q5.2.2.2 9) (p2 / 2).toNatClampNeg).toInt32) hx hb hr (fun t ht hW => ⟨⟨_, _, rfl, ⟨rfl, rfl⟩, by rw [ht]; exact hP, hD⟩, hS.F ht⟩) hS.2.2 d_Md_command_65
        · have hf := op_e hf c7
          refine lv_iconst (v := (-1)) hx hb d_Md_command_37 (by decide) ?_
          obtain rfl := Option.some.inj hf
          subst hQ
          subst hAe
          exact W.iret (v := (-1)) hx hb hr (fun t ht hW => ⟨⟨_, _, rfl, ⟨rfl, rfl⟩, by rw [ht]; exact hP, hD⟩, hS.F ht⟩) hS.2.2 d_Md_command_38
    · have hf := op_t hf c4
      refine lv_iconst (v := (-1)) hx hb d_Md_command_16 (by decide) ?_
      obtain rfl := Option.some.inj hf
      subst hQ
      subst hAe
      exact W.iret (v := (-1)) hx hb hr (fun t ht hW => ⟨⟨_, _, rfl, ⟨rfl, rfl⟩, by rw [ht]; exact hP, hD⟩, hS.F ht⟩) hS.2.2 d_Md_command_17
def l_Md_stretches_26 : Nat → Int32 → Int32 → Int64 → Int64 → Int32 → Int32 → MS → Option (Int64 × Int64 × Int32 × Int32 × MS)
  | 0, _, _, _, _, _, _, _ => none
  | n + 1, x1, x2, x3, x5, x7, x8, md => (if (md.1 8) ≤ x8 then some (x3, x5, x7, x8, md) else if ix x8 12 then (some (x3 + ((md.2.2 9) x8.toNatClampNeg)) : Option Int64).bind fun v9 => if ix x8 12 then (some (x5 + ((md.2.2 10) x8.toNatClampNeg)) : Option Int64).bind fun v11 => if ix x8 12 then ((if ((md.2.1 19) x8.toNatClampNeg) = 0 then some (x7, md) else ((if v9 ≤ x3 then some (v9) else some (x3)) : Option (Int64)).bind fun q16 => if ix (x2 + x7) 12 then (some (sL md 11 (vp_updL (md.2.2 11) (x2 + x7).toNatClampNeg q16))).bind fun md18 => ((if v9 ≤ x3 then some (x3) else some (v9)) : Option (Int64)).bind fun q20 => if ix (x2 + x7) 12 then (some (sL md18 12 (vp_updL (md18.2.2 12) (x2 + x7).toNatClampNeg q20))).bind fun md22 => ((if v11 ≤ x5 then some (v11) else some (x5)) : Option (Int64)).bind fun q24 => if ix (x2 + x7) 12 then (some (sL md22 13 (vp_updL (md22.2.2 13) (x2 + x7).toNatClampNeg q24))).bind fun md26 => (if v11 ≤ x5 then if ix (x2 + x7) 12 then (some (sL md26 14 (vp_updL (md26.2.2 14) (x2 + x7).toNatClampNeg x5))).bind fun md29 => some (x7 + 1, md29) else none else if ix (x2 + x7) 12 then (some (sL md26 14 (vp_updL (md26.2.2 14) (x2 + x7).toNatClampNeg v11))).bind fun md31 => some (x7 + 1, md31) else none) else none else none else none) : Option (Int32 × MS)).bind fun q14 => l_Md_stretches_26 n x1 x2 v9 v11 q14.1 (x8 + 1) q14.2 else none else none else none)
def f_Md_stretches (md : MS) (p1 : Int32) (p2 : Int32) : Option (Int32 × MS) := (f_Md_draw md p1).bind fun q1 => if ix p1 12 then (some ((q1.2.2.2 2) p1.toNatClampNeg) : Option Int64).bind fun v3 => if ix p1 12 then (some ((q1.2.2.2 3) p1.toNatClampNeg) : Option Int64).bind fun v5 => (l_Md_stretches_26 fu p1 p2 v3 v5 0 0 q1.2).bind fun q6 => some (q6.2.2.1, q6.2.2.2.2) else none else none
def rm_Md_stretches : Room := { frames := 2, cells := 0, slots := 0, locals := 48 }
set_option maxHeartbeats 4000000 in
set_option maxRecDepth 100000 in
theorem m_Md_stretches (l : Launch) (dC : Nat → ClassId) (dI : Nat → Nat → Nat) (tC : Nat → ClassId) (h_md : Nat) (ad_md : Nat → Nat) (md : MS) (p1 : Int32) (p2 : Int32) (R : Int32 × MS) (hf : f_Md_stretches md p1 p2 = some R) (sz : Nat) : Met l y_Md_stretches w_Md_stretches rm_Md_stretches (wrP (dC, dI) tC (w_Md_ h_md ad_md tC md) sz [.ref h_md, .int p1, .int p2]) (wrQ (dC, dI) (w_Md_ h_md ad_md tC md) sz (fun r w => r = (some (.int R.1)) ∧ w = (w_Md_ h_md ad_md tC R.2))) 0 0 (va_A (w_Md_ h_md ad_md tC md) sz) := by
  refine Met.ofW (cc := c_Md_stretches) (maxL := 13) (ret := (some (.int))) (by decide) rfl ?_
  intro p e s m args below meth c s₁ B hml hv
  obtain ⟨hav, hsz, hP, hK, hD0⟩ := hv
  have hx := B.exec
  have hb := B.bytes
  have hr := B.returns
  have hts : ∀ w ∈ gw, w.before args s = true := fun w h => atoms_spec (ws := w_Md_stretches) B.pre w (List.mem_cons_of_mem _ h)
  have hown : s.vm.findClass RX9 = some m.cls := findClass_of_methodNamed B.named
  have hlocks := B.notSynchronized
  subst hsz
  have hD := hD0.self (sz := s.heap.size)
  obtain ⟨A, hAe⟩ : ∃ z, z = va_A (w_Md_ h_md ad_md tC md) s.heap.size := ⟨_, rfl⟩
  rw [← hAe] at hD
  have hA : ∀ q : Nat, s.heap.size ≤ q → A q := fun q h => by rw [hAe]; exact Or.inr h
  have hS : va_S A s.heap s.heap [] := va_S.rf
  refine q_w (R := rm_Md_stretches) (fun Q hQ => ?_)
  refine en_w (av := [.ref h_md, .int p1, .int p2]) hav (Nat.le_of_ble_eq_true rfl) (fun ls hl => ?_)
  have hl : lv_has ls 13 [(0, .ref h_md), (1, .int p1), (2, .int p2)] := hl
  unfold f_Md_stretches at hf
  refine lv_aload_n hx hb d_Md_stretches_0 rfl (lv_at hl 0 rfl) ?_
  refine lv_iload_n hx hb d_Md_stretches_1 rfl (lv_at hl 1 rfl) ?_
  obtain ⟨q1, hq1, hf⟩ := op_b hf
  have hPc := hP
  have hDc := hD
  have hFc := va_free (wc := (w_Md_ h_md ad_md tC md)) hD hS hA [0, 1, 2, 3, 4, 5, 6, 7, 8, 9, 10, 11, 12, 13, 14, 15, 16, 17, 18, 19, 20, 21, 22, 23, 24, 25, 26, 27, 28, 29, 30, 31, 32, 33, 34, 35, 36] rfl
  refine wr_go (va_runV (As := [.int p1]) (rest := []) ⟨hx, hb, hml, hown, hts⟩ (m_Md_draw l dC dI tC h_md ad_md md p1 q1 hq1 _) (cwV 1 hts (gd_V kM_9_236 kI_Md_draw kV_Md_draw kZ_9 kC_Md_draw) rfl rfl rfl (by decide +kernel) ⟨(Nat.le_of_ble_eq_true rfl), (Nat.le_of_ble_eq_true rfl)⟩) ⟨wr_blind, va_recv hK hP (ci := 9) (q0 := 0) rfl rfl, wr_pre hK hPc hDc⟩ rfl rfl hl.1 rfl (lv_room (Nat.le_of_ble_eq_true rfl)) d_Md_stretches_2 ⟨(Nat.le_of_ble_eq_true rfl), (Nat.le_of_ble_eq_true rfl)⟩) hS hFc (fun r w1 H1 locs hw hP1 hD1 hk1 hS => ?_)
  obtain ⟨rfl, rfl⟩ := hw
  have hP := hP1
  have hD := hD1.weaken (fun _ q _ h => hFc q.1 h)
  clear hP1 hD1 hk1 hPc hDc hFc
  have hP : va_P (dC, dI) vwCl (w_Md_ h_md ad_md tC q1.2) _ := hP
  have hD : va_D A (w_Md_ h_md ad_md tC q1.2) := hD
  refine W.eq (g2 := F0 m 5 ls []) rfl ?_
  refine lv_aload_n hx hb d_Md_stretches_5 rfl (lv_at hl 0 rfl) ?_
  refine va_get (D := (dC, dI)) (ci := 9) (v := .ref (ad_md 9)) (C := RX9) (T := TX9) (N := 46) hx hb hts in_X9 hown hK hP 0 rfl rfl 12 (by decide) (hts _ kF_9_39) (fun _ h9 => h9) rfl d_Md_stretches_6 ?_
  refine lv_iload_n hx hb d_Md_stretches_9 rfl (lv_at hl 1 rfl) ?_
  obtain ⟨hi2, hf⟩ := op_if hf
  refine va_lald (f := q1.2.2.2 2) hx hb hK hP 10 1 rfl rfl (ix_in hi2) d_Md_stretches_10 ?_
  obtain ⟨v3, hv3, hf⟩ := op_b hf
  refine rw_l (y := v3) (Option.some.inj hv3) ?_
  refine lv_lstore_n (lv' := [(3, .long v3), (0, .ref h_md), (1, .int p1), (2, .int p2)]) hx hb d_Md_stretches_11 rfl hl (by decide) rfl (fun ls hl => ?_)
  refine lv_aload_n hx hb d_Md_stretches_12 rfl (lv_at hl 1 rfl) ?_
  refine va_get (D := (dC, dI)) (ci := 9) (v := .ref (ad_md 10)) (C := RX9) (T := TX9) (N := 46) hx hb hts in_X9 hown hK hP 0 rfl rfl 13 (by decide) (hts _ kF_9_42) (fun _ h9 => h9) rfl d_Md_stretches_13 ?_
  refine lv_iload_n hx hb d_Md_stretches_16 rfl (lv_at hl 2 rfl) ?_
  obtain ⟨hi4, hf⟩ := op_if hf
  refine va_lald (f := q1.2.2.2 3) hx hb hK hP 11 1 rfl rfl (ix_in hi4) d_Md_stretches_17 ?_
  obtain ⟨v5, hv5, hf⟩ := op_b hf
  refine rw_l (y := v5) (Option.some.inj hv5) ?_
  refine lv_lstore (lv' := [(5, .long v5), (3, .long v3), (0, .ref h_md), (1, .int p1), (2, .int p2)]) hx hb d_Md_stretches_18 hl (by decide) rfl (fun ls hl => ?_)
  refine lv_iconst (v := 0) hx hb d_Md_stretches_20 (by decide) ?_
  refine lv_istore (lv' := [(7, .int 0), (5, .long v5), (3, .long v3), (0, .ref h_md), (1, .int p1), (2, .int p2)]) hx hb d_Md_stretches_21 hl (by decide) rfl (fun ls hl => ?_)
  refine lv_iconst (v := 0) hx hb d_Md_stretches_23 (by decide) ?_
  refine lv_istore (lv' := [(8, .int 0), (7, .int 0), (5, .long v5), (3, .long v3), (0, .ref h_md), (1, .int p1), (2, .int p2)]) hx hb d_Md_stretches_24 hl (by decide) rfl (fun ls hl => ?_)
  have lp_26 : ∀ (n : Nat) (x1 : Int32) (x2 : Int32) (x3 : Int64) (x5 : Int64) (x7 : Int32) (x8 : Int32) (md : MS) (Rl : Int64 × Int64 × Int32 × Int32 × MS), l_Md_stretches_26 n x1 x2 x3 x5 x7 x8 md = some Rl → ∀ (H : Heap) (locs : List Loc), va_P (dC, dI) vwCl (w_Md_ h_md ad_md tC md) H → va_D A (w_Md_ h_md ad_md tC md) → va_S A s.heap H locs → ∀ ls : Array Slot, lv_has ls 13 [(8, .int x8), (7, .int x7), (5, .long x5), (3, .long x3), (0, .ref h_md), (1, .int x1), (2, .int x2)] → (∀ (H : Heap) (locs : List Loc), va_P (dC, dI) vwCl (w_Md_ h_md ad_md tC Rl.2.2.2.2) H → va_D A (w_Md_ h_md ad_md tC Rl.2.2.2.2) → va_S A s.heap H locs → ∀ ls : Array Slot, lv_has ls 13 [(8, .int Rl.2.2.2.1), (7, .int Rl.2.2.1), (5, .long Rl.2.1), (3, .long Rl.1), (0, .ref h_md), (1, .int x1), (2, .int x2)] → W p l e rm_Md_stretches s m args below meth c H locs 0 0 Q (F0 m 176 ls [])) → W p l e rm_Md_stretches s m args below meth c H locs 0 0 Q (F0 m 26 ls []) := by
    intro n
    induction n with
    | zero => intro x1 x2 x3 x5 x7 x8 md Rl hf; cases hf
    | succ n ih_26 =>
      intro x1 x2 x3 x5 x7 x8 md Rl hf H locs hP hD hS ls hl Kk
      rw [l_Md_stretches_26] at hf
      refine lv_iload hx hb d_Md_stretches_26 (lv_at hl 0 rfl) ?_
      refine lv_aload_n hx hb d_Md_stretches_28 rfl (lv_at hl 4 rfl) ?_
      refine va_get (D := (dC, dI)) (ci := 9) (v := .int (md.1 8)) (C := RX9) (T := TX9) (N := 46) hx hb hts in_X9 hown hK hP 0 rfl rfl 36 (by decide) (hts _ kF_9_224) (fun _ h9 => h9) rfl d_Md_stretches_29 ?_
      refine lv_icmp_ge (tgt := 176) hx hb d_Md_stretches_32 (by decide) (fun c7 => ?_) (fun c7 => ?_)
      · have hf := op_t hf c7
        obtain rfl := Option.some.inj hf
        exact Kk _ _ hP hD hS _ (lv_sub hl [0, 1, 2, 3, 4, 5, 6] rfl)
      · have hf := op_e hf c7
        refine lv_lload_n hx hb d_Md_stretches_35 rfl (lv_at hl 3 rfl) ?_
        refine lv_aload_n hx hb d_Md_stretches_36 rfl (lv_at hl 4 rfl) ?_
        refine va_get (D := (dC, dI)) (ci := 9) (v := .ref (ad_md 28)) (C := RX9) (T := TX9) (N := 46) hx hb hts in_X9 hown hK hP 0 rfl rfl 37 (by decide) (hts _ kF_9_96) (fun _ h9 => h9) rfl d_Md_stretches_37 ?_
        refine lv_iload hx hb d_Md_stretches_40 (lv_at hl 0 rfl) ?_
        obtain ⟨hi8, hf⟩ := op_if hf
        refine va_lald (f := md.2.2 9) hx hb hK hP 29 1 rfl rfl (ix_in hi8) d_Md_stretches_42 ?_
        refine lv_ladd hx hb d_Md_stretches_43 ?_
        obtain ⟨v9, hv9, hf⟩ := op_b hf
        refine rw_l (y := v9) (Option.some.inj hv9) ?_
        refine lv_lstore (lv' := [(9, .long v9), (8, .int x8), (7, .int x7), (5, .long x5), (3, .long x3), (0, .ref h_md), (1, .int x1), (2, .int x2)]) hx hb d_Md_stretches_44 hl (by decide) rfl (fun ls hl => ?_)
        refine lv_lload hx hb d_Md_stretches_46 (lv_at hl 3 rfl) ?_
        refine lv_aload_n hx hb d_Md_stretches_48 rfl (lv_at hl 5 rfl) ?_
        refine va_get (D := (dC, dI)) (ci := 9) (v := .ref (ad_md 29)) (C := RX9) (T := TX9) (N := 46) hx hb hts in_X9 hown hK hP 0 rfl rfl 38 (by decide) (hts _ kF_9_99) (fun _ h9 => h9) rfl d_Md_stretches_49 ?_
        refine lv_iload hx hb d_Md_stretches_52 (lv_at hl 1 rfl) ?_
        obtain ⟨hi10, hf⟩ := op_if hf
        refine va_lald (f := md.2.2 10) hx hb hK hP 30 1 rfl rfl (ix_in hi10) d_Md_stretches_54 ?_
        refine lv_ladd hx hb d_Md_stretches_55 ?_
        obtain ⟨v11, hv11, hf⟩ := op_b hf
        refine rw_l (y := v11) (Option.some.inj hv11) ?_
        refine lv_lstore (lv' := [(11, .long v11), (9, .long v9), (8, .int x8), (7, .int x7), (5, .long x5), (3, .long x3), (0, .ref h_md), (1, .int x1), (2, .int x2)]) hx hb d_Md_stretches_56 hl (by decide) rfl (fun ls hl => ?_)
        refine lv_aload_n hx hb d_Md_stretches_58 rfl (lv_at hl 6 rfl) ?_
        refine va_get (D := (dC, dI)) (ci := 9) (v := .ref (ad_md 30)) (C := RX9) (T := TX9) (N := 46) hx hb hts in_X9 hown hK hP 0 rfl rfl 39 (by decide) (hts _ kF_9_102) (fun _ h9 => h9) rfl d_Md_stretches_59 ?_
        refine lv_iload hx hb d_Md_stretches_62 (lv_at hl 2 rfl) ?_
        obtain ⟨hi12, hf⟩ := op_if hf
        refine va_zald (f := md.2.1 19) hx hb hK hP 31 3 rfl rfl (ix_in hi12) d_Md_stretches_64 ?_
        obtain ⟨q14, hq14, hf⟩ := op_b hf
        have J_65 : ∀ (H : Heap) (locs : List Loc), va_P (dC, dI) vwCl (w_Md_ h_md ad_md tC q14.2) H → va_D A (w_Md_ h_md ad_md tC q14.2) → va_S A s.heap H locs → ∀ ls : Array Slot, lv_has ls 13 [(11, .long v11), (9, .long v9), (8, .int x8), (7, .int q14.1), (5, .long x5), (3, .long x3), (0, .ref h_md), (1, .int x1), (2, .int x2)] → W p l e rm_Md_stretches s m args below meth c H locs 0 0 Q (F0 m 163 ls []) := by
          intro H locs hP hD hS ls hl
          refine lv_lload hx hb d_Md_stretches_163 (lv_at hl 1 rfl) ?_
          refine lv_lstore_n (lv' := [(3, .long v9), (11, .long v11), (9, .long v9), (8, .int x8), (7, .int q14.1), (5, .long x5), (0, .ref h_md), (1, .int x1), (2, .int x2)]) hx hb d_Md_stretches_165 rfl hl (by decide) rfl (fun ls hl => ?_)
          refine lv_lload hx hb d_Md_stretches_166 (lv_at hl 1 rfl) ?_
          refine lv_lstore (lv' := [(5, .long v11), (3, .long v9), (11, .long v11), (9, .long v9), (8, .int x8), (7, .int q14.1), (0, .ref h_md), (1, .int x1), (2, .int x2)]) hx hb d_Md_stretches_168 hl (by decide) rfl (fun ls hl => ?_)
          refine lv_iinc (v := x8 + 1) (lv' := [(8, .int (x8 + 1)), (5, .long v11), (3, .long v9), (11, .long v11), (9, .long v9), (7, .int q14.1), (0, .ref h_md), (1, .int x1), (2, .int x2)]) hx hb d_Md_stretches_170 hl (k := 4) rfl rfl (by decide) rfl (fun ls hl => ?_)
          refine lv_goto (tgt := 26) hx hb d_Md_stretches_173 (by decide) ?_
          exact ih_26 x1 x2 v9 v11 q14.1 (x8 + 1) q14.2 Rl hf _ _ hP hD hS _ (lv_sub hl [0, 5, 1, 2, 6, 7, 8] rfl) Kk
        clear hf
        have hf := hq14
        clear hq14
        refine lv_if_eq (tgt := 163) hx hb d_Md_stretches_65 (by decide) (fun c13 => ?_) (fun c13 => ?_)
        · have hf := op_t hf c13
          obtain rfl := Option.some.inj hf
          exact J_65 _ _ hP hD hS _ (lv_sub hl [0, 1, 2, 3, 4, 5, 6, 7, 8] rfl)
        · have hf := op_e hf c13
          refine lv_aload_n hx hb d_Md_stretches_68 rfl (lv_at hl 6 rfl) ?_
          refine va_get (D := (dC, dI)) (ci := 9) (v := .ref (ad_md 31)) (C := RX9) (T := TX9) (N := 46) hx hb hts in_X9 hown hK hP 0 rfl rfl 40 (by decide) (hts _ kF_9_105) (fun _ h9 => h9) rfl d_Md_stretches_69 ?_
          refine lv_iload_n hx hb d_Md_stretches_72 rfl (lv_at hl 8 rfl) ?_
          refine lv_iload hx hb d_Md_stretches_73 (lv_at hl 3 rfl) ?_
          refine lv_iadd hx hb d_Md_stretches_75 ?_
          refine lv_lload_n hx hb d_Md_stretches_76 rfl (lv_at hl 5 rfl) ?_
          refine lv_lload hx hb d_Md_stretches_77 (lv_at hl 1 rfl) ?_
          refine W.lcmp hx hb d_Md_stretches_79 ?_
          obtain ⟨q16, hq16, hf⟩ := op_b hf
          have J_80 : ∀ (H : Heap) (locs : List Loc), va_P (dC, dI) vwCl (w_Md_ h_md ad_md tC md) H → va_D A (w_Md_ h_md ad_md tC md) → va_S A s.heap H locs → ∀ ls : Array Slot, lv_has ls 13 [(11, .long v11), (9, .long v9), (8, .int x8), (7, .int x7), (5, .long x5), (3, .long x3), (0, .ref h_md), (1, .int x1), (2, .int x2)] → W p l e rm_Md_stretches s m args below meth c H locs 0 0 Q (F0 m 89 ls [.long q16, .int (x2 + x7), .ref (ad_md 31)]) := by
            intro H locs hP hD hS ls hl
            obtain ⟨hi17, hf⟩ := op_if hf
            refine va_last (f := md.2.2 11) hx hb hK hP hD hS 32 1 rfl rfl (ix_in hi17) d_Md_stretches_89 (fun H locs hP hD hS => ?_)
            rw [wu_Md_l11] at hP hD
            obtain ⟨md18, hmd18, hf⟩ := op_b hf
            have hP : va_P (dC, dI) vwCl (w_Md_ h_md ad_md tC md18) H := by rw [← Option.some.inj hmd18]; exact hP
            have hD : va_D A (w_Md_ h_md ad_md tC md18) := by rw [← Option.some.inj hmd18]; exact hD
            refine lv_aload_n hx hb d_Md_stretches_90 rfl (lv_at hl 6 rfl) ?_
            refine va_get (D := (dC, dI)) (ci := 9) (v := .ref (ad_md 32)) (C := RX9) (T := TX9) (N := 46) hx hb hts in_X9 hown hK hP 0 rfl rfl 41 (by decide) (hts _ kF_9_108) (fun _ h9 => h9) rfl d_Md_stretches_91 ?_
            refine lv_iload_n hx hb d_Md_stretches_94 rfl (lv_at hl 8 rfl) ?_
            refine lv_iload hx hb d_Md_stretches_95 (lv_at hl 3 rfl) ?_
            refine lv_iadd hx hb d_Md_stretches_97 ?_
            refine lv_lload_n hx hb d_Md_stretches_98 rfl (lv_at hl 5 rfl) ?_
            refine lv_lload hx hb d_Md_stretches_99 (lv_at hl 1 rfl) ?_
            refine W.lcmp hx hb d_Md_stretches_101 ?_
            obtain ⟨q20, hq20, hf⟩ := op_b hf
            have J_102 : ∀ (H : Heap) (locs : List Loc), va_P (dC, dI) vwCl (w_Md_ h_md ad_md tC md18) H → va_D A (w_Md_ h_md ad_md tC md18) → va_S A s.heap H locs → ∀ ls : Array Slot, lv_has ls 13 [(11, .long v11), (9, .long v9), (8, .int x8), (7, .int x7), (5, .long x5), (3, .long x3), (0, .ref h_md), (1, .int x1), (2, .int x2)] → W p l e rm_Md_stretches s m args below meth c H locs 0 0 Q (F0 m 111 ls [.long q20, .int (x2 + x7), .ref (ad_md 32)]) := by
              intro H locs hP hD hS ls hl
              obtain ⟨hi21, hf⟩ := op_if hf
              refine va_last (f := md18.2.2 12) hx hb hK hP hD hS 33 1 rfl rfl (ix_in hi21) d_Md_stretches_111 (fun H locs hP hD hS => ?_)
              rw [wu_Md_l12] at hP hD
              obtain ⟨md22, hmd22, hf⟩ := op_b hf
              have hP : va_P (dC, dI) vwCl (w_Md_ h_md ad_md tC md22) H := by rw [← Option.some.inj hmd22]; exact hP
              have hD : va_D A (w_Md_ h_md ad_md tC md22) := by rw [← Option.some.inj hmd22]; exact hD
              refine lv_aload_n hx hb d_Md_stretches_112 rfl (lv_at hl 6 rfl) ?_
              refine va_get (D := (dC, dI)) (ci := 9) (v := .ref (ad_md 33)) (C := RX9) (T := TX9) (N := 46) hx hb hts in_X9 hown hK hP 0 rfl rfl 42 (by decide) (hts _ kF_9_111) (fun _ h9 => h9) rfl d_Md_stretches_113 ?_
              refine lv_iload_n hx hb d_Md_stretches_116 rfl (lv_at hl 8 rfl) ?_
              refine lv_iload hx hb d_Md_stretches_117 (lv_at hl 3 rfl) ?_
              refine lv_iadd hx hb d_Md_stretches_119 ?_
              refine lv_lload hx hb d_Md_stretches_120 (lv_at hl 4 rfl) ?_
              refine lv_lload hx hb d_Md_stretches_122 (lv_at hl 0 rfl) ?_
              refine W.lcmp hx hb d_Md_stretches_124 ?_
              obtain ⟨q24, hq24, hf⟩ := op_b hf
              have J_125 : ∀ (H : Heap) (locs : List Loc), va_P (dC, dI) vwCl (w_Md_ h_md ad_md tC md22) H → va_D A (w_Md_ h_md ad_md tC md22) → va_S A s.heap H locs → ∀ ls : Array Slot, lv_has ls 13 [(11, .long v11), (9, .long v9), (8, .int x8), (7, .int x7), (5, .long x5), (3, .long x3), (0, .ref h_md), (1, .int x1), (2, .int x2)] → W p l e rm_Md_stretches s m args below meth c H locs 0 0 Q (F0 m 135 ls [.long q24, .int (x2 + x7), .ref (ad_md 33)]) := by
                intro H locs hP hD hS ls hl
                obtain ⟨hi25, hf⟩ := op_if hf
                refine va_last (f := md22.2.2 13) hx hb hK hP hD hS 34 1 rfl rfl (ix_in hi25) d_Md_stretches_135 (fun H locs hP hD hS => ?_)
                rw [wu_Md_l13] at hP hD
                obtain ⟨md26, hmd26, hf⟩ := op_b hf
                have hP : va_P (dC, dI) vwCl (w_Md_ h_md ad_md tC md26) H := by rw [← Option.some.inj hmd26]; exact hP
                have hD : va_D A (w_Md_ h_md ad_md tC md26) := by rw [← Option.some.inj hmd26]; exact hD
                refine lv_aload_n hx hb d_Md_stretches_136 rfl (lv_at hl 6 rfl) ?_
                refine va_get (D := (dC, dI)) (ci := 9) (v := .ref (ad_md 34)) (C := RX9) (T := TX9) (N := 46) hx hb hts in_X9 hown hK hP 0 rfl rfl 43 (by decide) (hts _ kF_9_114) (fun _ h9 => h9) rfl d_Md_stretches_137 ?_
                refine lv_iload_n hx hb d_Md_stretches_140 rfl (lv_at hl 8 rfl) ?_
                refine lv_iload hx hb d_Md_stretches_141 (lv_at hl 3 rfl) ?_
                refine lv_iadd hx hb d_Md_stretches_143 ?_
                refine lv_lload hx hb d_Md_stretches_144 (lv_at hl 4 rfl) ?_
                refine lv_lload hx hb d_Md_stretches_146 (lv_at hl 0 rfl) ?_
                refine W.lcmp hx hb d_Md_stretches_148 ?_
                refine lv_if_ge (tgt := 157) hx hb d_Md_stretches_149 (by decide) (fun c27 => ?_) (fun c27 => ?_)
                · have c27 := (lg_cmp_ge _ _).mp c27
                  have hf := op_t hf c27
                  refine lv_lload hx hb d_Md_stretches_157 (lv_at hl 4 rfl) ?_
                  obtain ⟨hi28, hf⟩ := op_if hf
                  refine va_last (f := md26.2.2 14) hx hb hK hP hD hS 35 1 rfl rfl (ix_in hi28) d_Md_stretches_159 (fun H locs hP hD hS => ?_)
                  rw [wu_Md_l14] at hP hD
                  obtain ⟨md29, hmd29, hf⟩ := op_b hf
                  have hP : va_P (dC, dI) vwCl (w_Md_ h_md ad_md tC md29) H := by rw [← Option.some.inj hmd29]; exact hP
                  have hD : va_D A (w_Md_ h_md ad_md tC md29) := by rw [← Option.some.inj hmd29]; exact hD
                  refine lv_iinc (v := x7 + 1) (lv' := [(7, .int (x7 + 1)), (11, .long v11), (9, .long v9), (8, .int x8), (5, .long x5), (3, .long x3), (0, .ref h_md), (1, .int x1), (2, .int x2)]) hx hb d_Md_stretches_160 hl (k := 3) rfl rfl (by decide) rfl (fun ls hl => ?_)
                  obtain rfl := Option.some.inj hf
                  exact J_65 _ _ hP hD hS _ (lv_sub hl [1, 2, 3, 0, 4, 5, 6, 7, 8] rfl)
                · have c27 := fun h9 => c27 ((lg_cmp_ge _ _).mpr h9)
                  have hf := op_e hf c27
                  refine lv_lload hx hb d_Md_stretches_152 (lv_at hl 0 rfl) ?_
                  refine lv_goto (tgt := 159) hx hb d_Md_stretches_154 (by decide) ?_
                  obtain ⟨hi30, hf⟩ := op_if hf
                  refine va_last (f := md26.2.2 14) hx hb hK hP hD hS 35 1 rfl rfl (ix_in hi30) d_Md_stretches_159 (fun H locs hP hD hS => ?_)
                  rw [wu_Md_l14] at hP hD
                  obtain ⟨md31, hmd31, hf⟩ := op_b hf
                  have hP : va_P (dC, dI) vwCl (w_Md_ h_md ad_md tC md31) H := by rw [← Option.some.inj hmd31]; exact hP
                  have hD : va_D A (w_Md_ h_md ad_md tC md31) := by rw [← Option.some.inj hmd31]; exact hD
                  refine lv_iinc (v := x7 + 1) (lv' := [(7, .int (x7 + 1)), (11, .long v11), (9, .long v9), (8, .int x8), (5, .long x5), (3, .long x3), (0, .ref h_md), (1, .int x1), (2, .int x2)]) hx hb d_Md_stretches_160 hl (k := 3) rfl rfl (by decide) rfl (fun ls hl => ?_)
                  obtain rfl := Option.some.inj hf
                  exact J_65 _ _ hP hD hS _ (lv_sub hl [1, 2, 3, 0, 4, 5, 6, 7, 8] rfl)
              clear hf
              have hf := hq24
              clear hq24
              refine lv_if_ge (tgt := 133) hx hb d_Md_stretches_125 (by decide) (fun c23 => ?_) (fun c23 => ?_)
              · have c23 := (lg_cmp_ge _ _).mp c23
                have hf := op_t hf c23
                refine lv_lload hx hb d_Md_stretches_133 (lv_at hl 0 rfl) ?_
                obtain rfl := Option.some.inj hf
                exact J_125 _ _ hP hD hS _ (lv_sub hl [0, 1, 2, 3, 4, 5, 6, 7, 8] rfl)
              · have c23 := fun h9 => c23 ((lg_cmp_ge _ _).mpr h9)
                have hf := op_e hf c23
                refine lv_lload hx hb d_Md_stretches_128 (lv_at hl 4 rfl) ?_
                refine lv_goto (tgt := 135) hx hb d_Md_stretches_130 (by decide) ?_
                obtain rfl := Option.some.inj hf
                exact J_125 _ _ hP hD hS _ (lv_sub hl [0, 1, 2, 3, 4, 5, 6, 7, 8] rfl)
            clear hf
            have hf := hq20
            clear hq20
            refine lv_if_ge (tgt := 110) hx hb d_Md_stretches_102 (by decide) (fun c19 => ?_) (fun c19 => ?_)
            · have c19 := (lg_cmp_ge _ _).mp c19
              have hf := op_t hf c19
              refine lv_lload_n hx hb d_Md_stretches_110 rfl (lv_at hl 5 rfl) ?_
              obtain rfl := Option.some.inj hf
              exact J_102 _ _ hP hD hS _ (lv_sub hl [0, 1, 2, 3, 4, 5, 6, 7, 8] rfl)
            · have c19 := fun h9 => c19 ((lg_cmp_ge _ _).mpr h9)
              have hf := op_e hf c19
              refine lv_lload hx hb d_Md_stretches_105 (lv_at hl 1 rfl) ?_
              refine lv_goto (tgt := 111) hx hb d_Md_stretches_107 (by decide) ?_
              obtain rfl := Option.some.inj hf
              exact J_102 _ _ hP hD hS _ (lv_sub hl [0, 1, 2, 3, 4, 5, 6, 7, 8] rfl)
          clear hf
          have hf := hq16
          clear hq16
          refine lv_if_ge (tgt := 87) hx hb d_Md_stretches_80 (by decide) (fun c15 => ?_) (fun c15 => ?_)
          · have c15 := (lg_cmp_ge _ _).mp c15
            have hf := op_t hf c15
            refine lv_lload hx hb d_Md_stretches_87 (lv_at hl 1 rfl) ?_
            obtain rfl := Option.some.inj hf
            exact J_80 _ _ hP hD hS _ (lv_sub hl [0, 1, 2, 3, 4, 5, 6, 7, 8] rfl)
          · have c15 := fun h9 => c15 ((lg_cmp_ge _ _).mpr h9)
            have hf := op_e hf c15
            refine lv_lload_n hx hb d_Md_stretches_83 rfl (lv_at hl 5 rfl) ?_
            refine lv_goto (tgt := 89) hx hb d_Md_stretches_84 (by decide) ?_
            obtain rfl := Option.some.inj hf
            exact J_80 _ _ hP hD hS _ (lv_sub hl [0, 1, 2, 3, 4, 5, 6, 7, 8] rfl)
  obtain ⟨q6, hq6, hf⟩ := op_b hf
  refine lp_26 fu p1 p2 v3 v5 0 0 q1.2 q6 hq6 _ _ hP hD hS _ (lv_sub hl [0, 1, 2, 3, 4, 5, 6] rfl) ?_
  intro H locs hP hD hS ls hl
  refine lv_iload hx hb d_Md_stretches_176 (lv_at hl 1 rfl) ?_
  obtain rfl := Option.some.inj hf
  subst hQ
  subst hAe
  exact W.iret (v := q6.2.2.1) hx hb hr (fun t ht hW => ⟨⟨_, _, rfl, ⟨rfl, rfl⟩, by rw [ht]; exact hP, hD⟩, hS.F ht⟩) hS.2.2 d_Md_stretches_178
def f_Md_gap (p1 : Int64) (p2 : Int64) (p3 : Int64) (p4 : Int64) : Option (Int64) := (if p3 ≤ p2 then (if p1 ≤ p4 then some 0 else some (p1 - p4)) else some (p3 - p2))
def rm_Md_gap : Room := { frames := 0, cells := 0, slots := 0, locals := 0 }
set_option maxHeartbeats 4000000 in
set_option maxRecDepth 100000 in
theorem m_Md_gap (l : Launch) (dC : Nat → ClassId) (dI : Nat → Nat → Nat) (tC : Nat → ClassId) (p1 : Int64) (p2 : Int64) (p3 : Int64) (p4 : Int64) (R : Int64) (H : Heap) (hf : f_Md_gap p1 p2 p3 p4 = some R) : Met l y_Md_gap w_Md_gap rm_Md_gap (roP (dC, dI) tC H [.long p1, .long p2, .long p3, .long p4]) (roQ H (some (.long R))) 0 0 (fun _ => False) := by
  refine Met.ofW (cc := c_Md_gap) (maxL := 8) (ret := (some (.long))) (by decide) rfl ?_
  intro p e s m args below meth c s₁ B hml hv
  obtain ⟨hav, hH, hK⟩ := hv
  have hx := B.exec
  have hb := B.bytes
  have hr := B.returns
  have hts : ∀ w ∈ gw, w.before args s = true := fun w h => atoms_spec (ws := w_Md_gap) B.pre w (List.mem_cons_of_mem _ h)
  have hown : s.vm.findClass RX9 = some m.cls := findClass_of_methodNamed B.named
  have hlocks := B.notSynchronized
  subst hH
  refine q_w (R := rm_Md_gap) (fun Q hQ => ?_)
  refine en_w (av := [.long p1, .long p2, .long p3, .long p4]) hav (Nat.le_of_ble_eq_true rfl) (fun ls hl => ?_)
  have hl : lv_has ls 8 [(0, .long p1), (2, .long p2), (4, .long p3), (6, .long p4)] := hl
  unfold f_Md_gap at hf
  refine lv_lload hx hb d_Md_gap_0 (lv_at hl 2 rfl) ?_
  refine lv_lload_n hx hb d_Md_gap_2 rfl (lv_at hl 1 rfl) ?_
  refine W.lcmp hx hb d_Md_gap_3 ?_
  refine lv_if_le (tgt := 14) hx hb d_Md_gap_4 (by decide) (fun c1 => ?_) (fun c1 => ?_)
  · have c1 := (lg_cmp_le _ _).mp c1
    have hf := op_t hf c1
    refine lv_lload_n hx hb d_Md_gap_14 rfl (lv_at hl 0 rfl) ?_
    refine lv_lload hx hb d_Md_gap_15 (lv_at hl 3 rfl) ?_
    refine W.lcmp hx hb d_Md_gap_17 ?_
    refine lv_if_le (tgt := 28) hx hb d_Md_gap_18 (by decide) (fun c2 => ?_) (fun c2 => ?_)
    · have c2 := (lg_cmp_le _ _).mp c2
      have hf := op_t hf c2
      refine lv_lconst (v := 0) hx hb d_Md_gap_28 (by decide) ?_
      obtain rfl := Option.some.inj hf
      subst hQ
      exact W.lret (v := 0) hx hb hr (fun t ht hW => ⟨rfl, ht⟩) (fun q h => by cases h) d_Md_gap_29
    · have c2 := fun h9 => c2 ((lg_cmp_le _ _).mpr h9)
      have hf := op_e hf c2
      refine lv_lload_n hx hb d_Md_gap_21 rfl (lv_at hl 0 rfl) ?_
      refine lv_lload hx hb d_Md_gap_22 (lv_at hl 3 rfl) ?_
      refine lv_lsub hx hb d_Md_gap_24 ?_
      refine lv_goto (tgt := 29) hx hb d_Md_gap_25 (by decide) ?_
      obtain rfl := Option.some.inj hf
      subst hQ
      exact W.lret (v := p1 - p4) hx hb hr (fun t ht hW => ⟨rfl, ht⟩) (fun q h => by cases h) d_Md_gap_29
  · have c1 := fun h9 => c1 ((lg_cmp_le _ _).mpr h9)
    have hf := op_e hf c1
    refine lv_lload hx hb d_Md_gap_7 (lv_at hl 2 rfl) ?_
    refine lv_lload_n hx hb d_Md_gap_9 rfl (lv_at hl 1 rfl) ?_
    refine lv_lsub hx hb d_Md_gap_10 ?_
    refine lv_goto (tgt := 29) hx hb d_Md_gap_11 (by decide) ?_
    obtain rfl := Option.some.inj hf
    subst hQ
    exact W.lret (v := p3 - p2) hx hb hr (fun t ht hW => ⟨rfl, ht⟩) (fun q h => by cases h) d_Md_gap_29
def l_Md_clash_120 : Nat → Int32 → Int32 → Int32 → Int32 → Int64 → Int64 → Int32 → Int32 → Int32 → MS → Option (Int32 × Int32)
  | 0, _, _, _, _, _, _, _, _, _, _ => none
  | n + 1, x1, x2, x3, x4, x5, x7, x9, x10, x11, md => (if (6 + x4) ≤ x11 then some (x9, x11) else if ix x10 12 then if ix x10 12 then if ix x11 12 then if ix x11 12 then (f_Md_gap ((md.2.2 11) x10.toNatClampNeg) ((md.2.2 12) x10.toNatClampNeg) ((md.2.2 11) x11.toNatClampNeg) ((md.2.2 12) x11.toNatClampNeg)).bind fun q30 => if ix x10 12 then if ix x10 12 then if ix x11 12 then if ix x11 12 then (f_Md_gap ((md.2.2 13) x10.toNatClampNeg) ((md.2.2 14) x10.toNatClampNeg) ((md.2.2 13) x11.toNatClampNeg) ((md.2.2 14) x11.toNatClampNeg)).bind fun q35 => (if (x7 * x7) ≤ (4 * (((q30 * q30) + (q35 * q35)) + (x5 * x5))) then l_Md_clash_120 n x1 x2 x3 x4 x5 x7 x9 x10 (x11 + 1) md else l_Md_clash_120 n x1 x2 x3 x4 x5 x7 1 x10 (x11 + 1) md) else none else none else none else none else none else none else none else none)
def l_Md_clash_110 : Nat → Int32 → Int32 → Int32 → Int32 → Int64 → Int64 → Int32 → Int32 → MS → Option (Int32 × Int32)
  | 0, _, _, _, _, _, _, _, _, _ => none
  | n + 1, x1, x2, x3, x4, x5, x7, x9, x10, md => (if x3 ≤ x10 then some (x9, x10) else (l_Md_clash_120 fu x1 x2 x3 x4 x5 x7 x9 x10 6 md).bind fun q24 => l_Md_clash_110 n x1 x2 x3 x4 x5 x7 q24.1 (x10 + 1) md)
def f_Md_clash (md : MS) (p1 : Int32) (p2 : Int32) : Option (Int32 × MS) := (f_Md_isLine md p1).bind fun q1 => (if q1 = 0 then some ((-1), md) else (f_Md_isLine md p2).bind fun q3 => (if q3 = 0 then some ((-1), md) else (if p1 = p2 then some ((-1), md) else if ix p1 12 then (if ((md.2.1 6) p1.toNatClampNeg) = 0 then some ((-1), md) else if ix p2 12 then (if ((md.2.1 6) p2.toNatClampNeg) = 0 then some ((-1), md) else (f_Md_isTold md p1).bind fun q10 => (if q10 = 0 then some ((-1), md) else (f_Md_isTold md p2).bind fun q12 => (if q12 = 0 then some ((-1), md) else (f_Md_stretches md p1 0).bind fun q14 => (f_Md_stretches q14.2 p2 6).bind fun q15 => if ix p1 12 then if ix p2 12 then (some (((q15.2.2.2 4) p1.toNatClampNeg) - ((q15.2.2.2 4) p2.toNatClampNeg)) : Option Int64).bind fun v18 => if ix p1 12 then if ix p2 12 then (some ((((q15.2.2.1 4) p1.toNatClampNeg) + ((q15.2.2.1 4) p2.toNatClampNeg)).toInt64) : Option Int64).bind fun v21 => (l_Md_clash_110 fu p1 p2 q14.1 q15.1 v18 v21 0 0 q15.2).bind fun q22 => some (q22.1, q15.2) else none else none else none else none))) else none) else none)))
def rm_Md_clash : Room := { frames := 3, cells := 0, slots := 0, locals := 80 }
set_option maxHeartbeats 4000000 in
set_option maxRecDepth 100000 in
theorem m_Md_clash (l : Launch) (dC : Nat → ClassId) (dI : Nat → Nat → Nat) (tC : Nat → ClassId) (h_md : Nat) (ad_md : Nat → Nat) (md : MS) (p1 : Int32) (p2 : Int32) (R : Int32 × MS) (hf : f_Md_clash md p1 p2 = some R) (sz : Nat) : Met l y_Md_clash w_Md_clash rm_Md_clash (wrP (dC, dI) tC (w_Md_ h_md ad_md tC md) sz [.ref h_md, .int p1, .int p2]) (wrQ (dC, dI) (w_Md_ h_md ad_md tC md) sz (fun r w => r = (some (.int R.1)) ∧ w = (w_Md_ h_md ad_md tC R.2))) 0 0 (va_A (w_Md_ h_md ad_md tC md) sz) := by
  refine Met.ofW (cc := c_Md_clash) (maxL := 16) (ret := (some (.int))) (by decide) rfl ?_
  intro p e s m args below meth c s₁ B hml hv
  obtain ⟨hav, hsz, hP, hK, hD0⟩ := hv
  have hx := B.exec
  have hb := B.bytes
  have hr := B.returns
  have hts : ∀ w ∈ gw, w.before args s = true := fun w h => atoms_spec (ws := w_Md_clash) B.pre w (List.mem_cons_of_mem _ h)
  have hown : s.vm.findClass RX9 = some m.cls := findClass_of_methodNamed B.named
  have hlocks := B.notSynchronized
  subst hsz
  have hD := hD0.self (sz := s.heap.size)
  obtain ⟨A, hAe⟩ : ∃ z, z = va_A (w_Md_ h_md ad_md tC md) s.heap.size := ⟨_, rfl⟩
  rw [← hAe] at hD
  have hA : ∀ q : Nat, s.heap.size ≤ q → A q := fun q h => by rw [hAe]; exact Or.inr h
  have hS : va_S A s.heap s.heap [] := va_S.rf
  refine q_w (R := rm_Md_clash) (fun Q hQ => ?_)
  refine en_w (av := [.ref h_md, .int p1, .int p2]) hav (Nat.le_of_ble_eq_true rfl) (fun ls hl => ?_)
  have hl : lv_has ls 16 [(0, .ref h_md), (1, .int p1), (2, .int p2)] := hl
  unfold f_Md_clash at hf
  refine lv_aload_n hx hb d_Md_clash_0 rfl (lv_at hl 0 rfl) ?_
  refine lv_iload_n hx hb d_Md_clash_1 rfl (lv_at hl 1 rfl) ?_
  obtain ⟨q1, hq1, hf⟩ := op_b hf
  refine ro_go rfl (va_runV (As := [.int p1]) (rest := []) ⟨hx, hb, hml, hown, hts⟩ (m_Md_isLine l dC dI tC h_md ad_md md p1 q1 _ hP hq1) (cwV 1 hts (gd_V kM_9_154 kI_Md_isLine kV_Md_isLine kZ_9 kC_Md_isLine) rfl rfl rfl (by decide +kernel) ⟨(Nat.le_of_ble_eq_true rfl), (Nat.le_of_ble_eq_true rfl)⟩) ⟨ro_blind, va_recv hK hP (ci := 9) (q0 := 0) rfl rfl, ro_pre hK⟩ rfl rfl hl.1 rfl (lv_room (Nat.le_of_ble_eq_true rfl)) d_Md_clash_2 ⟨(Nat.le_of_ble_eq_true rfl), (Nat.le_of_ble_eq_true rfl)⟩) ?_
  refine W.eq (g2 := F0 m 5 ls [.int q1]) rfl ?_
  refine lv_if_eq (tgt := 55) hx hb d_Md_clash_5 (by decide) (fun c2 => ?_) (fun c2 => ?_)
  · have hf := op_t hf c2
    refine lv_iconst (v := (-1)) hx hb d_Md_clash_55 (by decide) ?_
    obtain rfl := Option.some.inj hf
    subst hQ
    subst hAe
    exact W.iret (v := (-1)) hx hb hr (fun t ht hW => ⟨⟨_, _, rfl, ⟨rfl, rfl⟩, by rw [ht]; exact hP, hD⟩, hS.F ht⟩) hS.2.2 d_Md_clash_56
  · have hf := op_e hf c2
    refine lv_aload_n hx hb d_Md_clash_8 rfl (lv_at hl 0 rfl) ?_
    refine lv_iload_n hx hb d_Md_clash_9 rfl (lv_at hl 2 rfl) ?_
    obtain ⟨q3, hq3, hf⟩ := op_b hf
    refine ro_go rfl (va_runV (As := [.int p2]) (rest := []) ⟨hx, hb, hml, hown, hts⟩ (m_Md_isLine l dC dI tC h_md ad_md md p2 q3 _ hP hq3) (cwV 1 hts (gd_V kM_9_154 kI_Md_isLine kV_Md_isLine kZ_9 kC_Md_isLine) rfl rfl rfl (by decide +kernel) ⟨(Nat.le_of_ble_eq_true rfl), (Nat.le_of_ble_eq_true rfl)⟩) ⟨ro_blind, va_recv hK hP (ci := 9) (q0 := 0) rfl rfl, ro_pre hK⟩ rfl rfl hl.1 rfl (lv_room (Nat.le_of_ble_eq_true rfl)) d_Md_clash_10 ⟨(Nat.le_of_ble_eq_true rfl), (Nat.le_of_ble_eq_true rfl)⟩) ?_
    refine W.eq (g2 := F0 m 13 ls [.int q3]) rfl ?_
    refine lv_if_eq (tgt := 55) hx hb d_Md_clash_13 (by decide) (fun c4 => ?_) (fun c4 => ?_)
    · have hf := op_t hf c4
      refine lv_iconst (v := (-1)) hx hb d_Md_clash_55 (by decide) ?_
      obtain rfl := Option.some.inj hf
      subst hQ
      subst hAe
      exact W.iret (v := (-1)) hx hb hr (fun t ht hW => ⟨⟨_, _, rfl, ⟨rfl, rfl⟩, by rw [ht]; exact hP, hD⟩, hS.F ht⟩) hS.2.2 d_Md_clash_56
    · have hf := op_e hf c4
      refine lv_iload_n hx hb d_Md_clash_16 rfl (lv_at hl 1 rfl) ?_
      refine lv_iload_n hx hb d_Md_clash_17 rfl (lv_at hl 2 rfl) ?_
      refine lv_icmp_eq (tgt := 55) hx hb d_Md_clash_18 (by decide) (fun c5 => ?_) (fun c5 => ?_)
      · have hf := op_t hf c5
        refine lv_iconst (v := (-1)) hx hb d_Md_clash_55 (by decide) ?_
        obtain rfl := Option.some.inj hf
        subst hQ
        subst hAe
        exact W.iret (v := (-1)) hx hb hr (fun t ht hW => ⟨⟨_, _, rfl, ⟨rfl, rfl⟩, by rw [ht]; exact hP, hD⟩, hS.F ht⟩) hS.2.2 d_Md_clash_56
      · have hf := op_e hf c5
        refine lv_aload_n hx hb d_Md_clash_21 rfl (lv_at hl 0 rfl) ?_
        refine va_get (D := (dC, dI)) (ci := 9) (v := .ref (ad_md 8)) (C := RX9) (T := TX9) (N := 46) hx hb hts in_X9 hown hK hP 0 rfl rfl 11 (by decide) (hts _ kF_9_35) (fun _ h9 => h9) rfl d_Md_clash_22 ?_
        refine lv_iload_n hx hb d_Md_clash_25 rfl (lv_at hl 1 rfl) ?_
        obtain ⟨hi6, hf⟩ := op_if hf
        refine va_zald (f := md.2.1 6) hx hb hK hP 9 3 rfl rfl (ix_in hi6) d_Md_clash_26 ?_
        refine lv_if_eq (tgt := 55) hx hb d_Md_clash_27 (by decide) (fun c7 => ?_) (fun c7 => ?_)
        · have hf := op_t hf c7
          refine lv_iconst (v := (-1)) hx hb d_Md_clash_55 (by decide) ?_
          obtain rfl := Option.some.inj hf
          subst hQ
          subst hAe
          exact W.iret (v := (-1)) hx hb hr (fun t ht hW => ⟨⟨_, _, rfl, ⟨rfl, rfl⟩, by rw [ht]; exact hP, hD⟩, hS.F ht⟩) hS.2.2 d_Md_clash_56
        · have hf := op_e hf c7
          refine lv_aload_n hx hb d_Md_clash_30 rfl (lv_at hl 0 rfl) ?_
          refine va_get (D := (dC, dI)) (ci := 9) (v := .ref (ad_md 8)) (C := RX9) (T := TX9) (N := 46) hx hb hts in_X9 hown hK hP 0 rfl rfl 11 (by decide) (hts _ kF_9_35) (fun _ h9 => h9) rfl d_Md_clash_31 ?_
          refine lv_iload_n hx hb d_Md_clash_34 rfl (lv_at hl 2 rfl) ?_
          obtain ⟨hi8, hf⟩ := op_if hf
          refine va_zald (f := md.2.1 6) hx hb hK hP 9 3 rfl rfl (ix_in hi8) d_Md_clash_35 ?_
          refine lv_if_eq (tgt := 55) hx hb d_Md_clash_36 (by decide) (fun c9 => ?_) (fun c9 => ?_)
          · have hf := op_t hf c9
            refine lv_iconst (v := (-1)) hx hb d_Md_clash_55 (by decide) ?_
            obtain rfl := Option.some.inj hf
            subst hQ
            subst hAe
            exact W.iret (v := (-1)) hx hb hr (fun t ht hW => ⟨⟨_, _, rfl, ⟨rfl, rfl⟩, by rw [ht]; exact hP, hD⟩, hS.F ht⟩) hS.2.2 d_Md_clash_56
          · have hf := op_e hf c9
            refine lv_aload_n hx hb d_Md_clash_39 rfl (lv_at hl 0 rfl) ?_
            refine lv_iload_n hx hb d_Md_clash_40 rfl (lv_at hl 1 rfl) ?_
            obtain ⟨q10, hq10, hf⟩ := op_b hf
            refine ro_go rfl (va_runV (As := [.int p1]) (rest := []) ⟨hx, hb, hml, hown, hts⟩ (m_Md_isTold l dC dI tC h_md ad_md md p1 q10 _ hP hq10) (cwV 1 hts (gd_V kM_9_233 kI_Md_isTold kV_Md_isTold kZ_9 kC_Md_isTold) rfl rfl rfl (by decide +kernel) ⟨(Nat.le_of_ble_eq_true rfl), (Nat.le_of_ble_eq_true rfl)⟩) ⟨ro_blind, va_recv hK hP (ci := 9) (q0 := 0) rfl rfl, ro_pre hK⟩ rfl rfl hl.1 rfl (lv_room (Nat.le_of_ble_eq_true rfl)) d_Md_clash_41 ⟨(Nat.le_of_ble_eq_true rfl), (Nat.le_of_ble_eq_true rfl)⟩) ?_
            refine W.eq (g2 := F0 m 44 ls [.int q10]) rfl ?_
            refine lv_if_eq (tgt := 55) hx hb d_Md_clash_44 (by decide) (fun c11 => ?_) (fun c11 => ?_)
            · have hf := op_t hf c11
              refine lv_iconst (v := (-1)) hx hb d_Md_clash_55 (by decide) ?_
              obtain rfl := Option.some.inj hf
              subst hQ
              subst hAe
              exact W.iret (v := (-1)) hx hb hr (fun t ht hW => ⟨⟨_, _, rfl, ⟨rfl, rfl⟩, by rw [ht]; exact hP, hD⟩, hS.F ht⟩) hS.2.2 d_Md_clash_56
            · have hf := op_e hf c11
              refine lv_aload_n hx hb d_Md_clash_47 rfl (lv_at hl 0 rfl) ?_
              refine lv_iload_n hx hb d_Md_clash_48 rfl (lv_at hl 2 rfl) ?_
              obtain ⟨q12, hq12, hf⟩ := op_b hf
              refine ro_go rfl (va_runV (As := [.int p2]) (rest := []) ⟨hx, hb, hml, hown, hts⟩ (m_Md_isTold l dC dI tC h_md ad_md md p2 q12 _ hP hq12) (cwV 1 hts (gd_V kM_9_233 kI_Md_isTold kV_Md_isTold kZ_9 kC_Md_isTold) rfl rfl rfl (by decide +kernel) ⟨(Nat.le_of_ble_eq_true rfl), (Nat.le_of_ble_eq_true rfl)⟩) ⟨ro_blind, va_recv hK hP (ci := 9) (q0 := 0) rfl rfl, ro_pre hK⟩ rfl rfl hl.1 rfl (lv_room (Nat.le_of_ble_eq_true rfl)) d_Md_clash_49 ⟨(Nat.le_of_ble_eq_true rfl), (Nat.le_of_ble_eq_true rfl)⟩) ?_
              refine W.eq (g2 := F0 m 52 ls [.int q12]) rfl ?_
              refine lv_if_ne (tgt := 57) hx hb d_Md_clash_52 (by decide) (fun c13 => ?_) (fun c13 => ?_)
              · have hf := op_e hf c13
                refine lv_aload_n hx hb d_Md_clash_57 rfl (lv_at hl 0 rfl) ?_
                refine lv_iload_n hx hb d_Md_clash_58 rfl (lv_at hl 1 rfl) ?_
                refine lv_iconst (v := 0) hx hb d_Md_clash_59 (by decide) ?_
                obtain ⟨q14, hq14, hf⟩ := op_b hf
                have hPc := hP
                have hDc := hD
                have hFc := va_free (wc := (w_Md_ h_md ad_md tC md)) hD hS hA [0, 1, 2, 3, 4, 5, 6, 7, 8, 9, 10, 11, 12, 13, 14, 15, 16, 17, 18, 19, 20, 21, 22, 23, 24, 25, 26, 27, 28, 29, 30, 31, 32, 33, 34, 35, 36] rfl
                refine wr_go (va_runV (As := [.int p1, .int 0]) (rest := []) ⟨hx, hb, hml, hown, hts⟩ (m_Md_stretches l dC dI tC h_md ad_md md p1 0 q14 hq14 _) (cwV 2 hts (gd_V kM_9_239 kI_Md_stretches kV_Md_stretches kZ_9 kC_Md_stretches) rfl rfl rfl (by decide +kernel) ⟨(Nat.le_of_ble_eq_true rfl), (Nat.le_of_ble_eq_true rfl)⟩) ⟨wr_blind, va_recv hK hP (ci := 9) (q0 := 0) rfl rfl, wr_pre hK hPc hDc⟩ rfl rfl hl.1 rfl (lv_room (Nat.le_of_ble_eq_true rfl)) d_Md_clash_60 ⟨(Nat.le_of_ble_eq_true rfl), (Nat.le_of_ble_eq_true rfl)⟩) hS hFc (fun r w1 H1 locs hw hP1 hD1 hk1 hS => ?_)
                obtain ⟨rfl, rfl⟩ := hw
                have hP := hP1
                have hD := hD1.weaken (fun _ q _ h => hFc q.1 h)
                clear hP1 hD1 hk1 hPc hDc hFc
                have hP : va_P (dC, dI) vwCl (w_Md_ h_md ad_md tC q14.2) _ := hP
                have hD : va_D A (w_Md_ h_md ad_md tC q14.2) := hD
                refine W.eq (g2 := F0 m 63 ls [.int q14.1]) rfl ?_
                refine lv_istore_n (lv' := [(3, .int q14.1), (0, .ref h_md), (1, .int p1), (2, .int p2)]) hx hb d_Md_clash_63 rfl hl (by decide) rfl (fun ls hl => ?_)
                refine lv_aload_n hx hb d_Md_clash_64 rfl (lv_at hl 1 rfl) ?_
                refine lv_iload_n hx hb d_Md_clash_65 rfl (lv_at hl 3 rfl) ?_
                refine lv_bipush (v := 6) hx hb d_Md_clash_66 (by decide) ?_
                obtain ⟨q15, hq15, hf⟩ := op_b hf
                have hPc := hP
                have hDc := hD
                have hFc := va_free (wc := (w_Md_ h_md ad_md tC q14.2)) hD hS hA [0, 1, 2, 3, 4, 5, 6, 7, 8, 9, 10, 11, 12, 13, 14, 15, 16, 17, 18, 19, 20, 21, 22, 23, 24, 25, 26, 27, 28, 29, 30, 31, 32, 33, 34, 35, 36] rfl
                refine wr_go (va_runV (As := [.int p2, .int 6]) (rest := []) ⟨hx, hb, hml, hown, hts⟩ (m_Md_stretches l dC dI tC h_md ad_md q14.2 p2 6 q15 hq15 _) (cwV 2 hts (gd_V kM_9_239 kI_Md_stretches kV_Md_stretches kZ_9 kC_Md_stretches) rfl rfl rfl (by decide +kernel) ⟨(Nat.le_of_ble_eq_true rfl), (Nat.le_of_ble_eq_true rfl)⟩) ⟨wr_blind, va_recv hK hP (ci := 9) (q0 := 0) rfl rfl, wr_pre hK hPc hDc⟩ rfl rfl hl.1 rfl (lv_room (Nat.le_of_ble_eq_true rfl)) d_Md_clash_68 ⟨(Nat.le_of_ble_eq_true rfl), (Nat.le_of_ble_eq_true rfl)⟩) hS hFc (fun r w1 H1 locs hw hP1 hD1 hk1 hS => ?_)
                obtain ⟨rfl, rfl⟩ := hw
                have hP := hP1
                have hD := hD1.weaken (fun _ q _ h => hFc q.1 h)
                clear hP1 hD1 hk1 hPc hDc hFc
                have hP : va_P (dC, dI) vwCl (w_Md_ h_md ad_md tC q15.2) _ := hP
                have hD : va_D A (w_Md_ h_md ad_md tC q15.2) := hD
                refine W.eq (g2 := F0 m 71 ls [.int q15.1]) rfl ?_
                refine lv_istore (lv' := [(4, .int q15.1), (3, .int q14.1), (0, .ref h_md), (1, .int p1), (2, .int p2)]) hx hb d_Md_clash_71 hl (by decide) rfl (fun ls hl => ?_)
                refine lv_aload_n hx hb d_Md_clash_73 rfl (lv_at hl 2 rfl) ?_
                refine va_get (D := (dC, dI)) (ci := 9) (v := .ref (ad_md 11)) (C := RX9) (T := TX9) (N := 46) hx hb hts in_X9 hown hK hP 0 rfl rfl 14 (by decide) (hts _ kF_9_45) (fun _ h9 => h9) rfl d_Md_clash_74 ?_
                refine lv_iload_n hx hb d_Md_clash_77 rfl (lv_at hl 3 rfl) ?_
                obtain ⟨hi16, hf⟩ := op_if hf
                refine va_lald (f := q15.2.2.2 4) hx hb hK hP 12 1 rfl rfl (ix_in hi16) d_Md_clash_78 ?_
                refine lv_aload_n hx hb d_Md_clash_79 rfl (lv_at hl 2 rfl) ?_
                refine va_get (D := (dC, dI)) (ci := 9) (v := .ref (ad_md 11)) (C := RX9) (T := TX9) (N := 46) hx hb hts in_X9 hown hK hP 0 rfl rfl 14 (by decide) (hts _ kF_9_45) (fun _ h9 => h9) rfl d_Md_clash_80 ?_
                refine lv_iload_n hx hb d_Md_clash_83 rfl (lv_at hl 4 rfl) ?_
                obtain ⟨hi17, hf⟩ := op_if hf
                refine va_lald (f := q15.2.2.2 4) hx hb hK hP 12 1 rfl rfl (ix_in hi17) d_Md_clash_84 ?_
                refine lv_lsub hx hb d_Md_clash_85 ?_
                obtain ⟨v18, hv18, hf⟩ := op_b hf
                refine rw_l (y := v18) (Option.some.inj hv18) ?_
                refine lv_lstore (lv' := [(5, .long v18), (4, .int q15.1), (3, .int q14.1), (0, .ref h_md), (1, .int p1), (2, .int p2)]) hx hb d_Md_clash_86 hl (by decide) rfl (fun ls hl => ?_)
                refine lv_aload_n hx hb d_Md_clash_88 rfl (lv_at hl 3 rfl) ?_
                refine va_get (D := (dC, dI)) (ci := 9) (v := .ref (ad_md 5)) (C := RX9) (T := TX9) (N := 46) hx hb hts in_X9 hown hK hP 0 rfl rfl 8 (by decide) (hts _ kF_9_26) (fun _ h9 => h9) rfl d_Md_clash_89 ?_
                refine lv_iload_n hx hb d_Md_clash_92 rfl (lv_at hl 4 rfl) ?_
                obtain ⟨hi19, hf⟩ := op_if hf
                refine va_iald (f := q15.2.2.1 4) hx hb hK hP 6 0 rfl rfl (ix_in hi19) d_Md_clash_93 ?_
                refine lv_aload_n hx hb d_Md_clash_94 rfl (lv_at hl 3 rfl) ?_
                refine va_get (D := (dC, dI)) (ci := 9) (v := .ref (ad_md 5)) (C := RX9) (T := TX9) (N := 46) hx hb hts in_X9 hown hK hP 0 rfl rfl 8 (by decide) (hts _ kF_9_26) (fun _ h9 => h9) rfl d_Md_clash_95 ?_
                refine lv_iload_n hx hb d_Md_clash_98 rfl (lv_at hl 5 rfl) ?_
                obtain ⟨hi20, hf⟩ := op_if hf
                refine va_iald (f := q15.2.2.1 4) hx hb hK hP 6 0 rfl rfl (ix_in hi20) d_Md_clash_99 ?_
                refine lv_iadd hx hb d_Md_clash_100 ?_
                refine lv_i2l (v := (((q15.2.2.1 4) p1.toNatClampNeg) + ((q15.2.2.1 4) p2.toNatClampNeg)).toInt64) hx hb d_Md_clash_101 rfl ?_
                obtain ⟨v21, hv21, hf⟩ := op_b hf
                refine rw_l (y := v21) (Option.some.inj hv21) ?_
                refine lv_lstore (lv' := [(7, .long v21), (5, .long v18), (4, .int q15.1), (3, .int q14.1), (0, .ref h_md), (1, .int p1), (2, .int p2)]) hx hb d_Md_clash_102 hl (by decide) rfl (fun ls hl => ?_)
                refine lv_iconst (v := 0) hx hb d_Md_clash_104 (by decide) ?_
                refine lv_istore (lv' := [(9, .int 0), (7, .long v21), (5, .long v18), (4, .int q15.1), (3, .int q14.1), (0, .ref h_md), (1, .int p1), (2, .int p2)]) hx hb d_Md_clash_105 hl (by decide) rfl (fun ls hl => ?_)
                refine lv_iconst (v := 0) hx hb d_Md_clash_107 (by decide) ?_
                refine lv_istore (lv' := [(10, .int 0), (9, .int 0), (7, .long v21), (5, .long v18), (4, .int q15.1), (3, .int q14.1), (0, .ref h_md), (1, .int p1), (2, .int p2)]) hx hb d_Md_clash_108 hl (by decide) rfl (fun ls hl => ?_)
                have lp_110 : ∀ (n : Nat) (x1 : Int32) (x2 : Int32) (x3 : Int32) (x4 : Int32) (x5 : Int64) (x7 : Int64) (x9 : Int32) (x10 : Int32) (md : MS) (Rl : Int32 × Int32), l_Md_clash_110 n x1 x2 x3 x4 x5 x7 x9 x10 md = some Rl → ∀ (H : Heap) (locs : List Loc), va_P (dC, dI) vwCl (w_Md_ h_md ad_md tC md) H → va_D A (w_Md_ h_md ad_md tC md) → va_S A s.heap H locs → ∀ ls : Array Slot, lv_has ls 16 [(10, .int x10), (9, .int x9), (7, .long x7), (5, .long x5), (4, .int x4), (3, .int x3), (0, .ref h_md), (1, .int x1), (2, .int x2)] → (∀ (H : Heap) (locs : List Loc), va_P (dC, dI) vwCl (w_Md_ h_md ad_md tC md) H → va_D A (w_Md_ h_md ad_md tC md) → va_S A s.heap H locs → ∀ ls : Array Slot, lv_has ls 16 [(10, .int Rl.2), (9, .int Rl.1), (7, .long x7), (5, .long x5), (4, .int x4), (3, .int x3), (0, .ref h_md), (1, .int x1), (2, .int x2)] → W p l e rm_Md_clash s m args below meth c H locs 0 0 Q (F0 m 246 ls [])) → W p l e rm_Md_clash s m args below meth c H locs 0 0 Q (F0 m 110 ls []) := by
                  intro n
                  induction n with
                  | zero => intro x1 x2 x3 x4 x5 x7 x9 x10 md Rl hf; cases hf
                  | succ n ih_110 =>
                    intro x1 x2 x3 x4 x5 x7 x9 x10 md Rl hf H locs hP hD hS ls hl Kk
                    rw [l_Md_clash_110] at hf
                    refine lv_iload hx hb d_Md_clash_110 (lv_at hl 0 rfl) ?_
                    refine lv_iload_n hx hb d_Md_clash_112 rfl (lv_at hl 5 rfl) ?_
                    refine lv_icmp_ge (tgt := 246) hx hb d_Md_clash_113 (by decide) (fun c23 => ?_) (fun c23 => ?_)
                    · have hf := op_t hf c23
                      obtain rfl := Option.some.inj hf
                      exact Kk _ _ hP hD hS _ (lv_sub hl [0, 1, 2, 3, 4, 5, 6, 7, 8] rfl)
                    · have hf := op_e hf c23
                      refine lv_bipush (v := 6) hx hb d_Md_clash_116 (by decide) ?_
                      refine lv_istore (lv' := [(11, .int 6), (10, .int x10), (9, .int x9), (7, .long x7), (5, .long x5), (4, .int x4), (3, .int x3), (0, .ref h_md), (1, .int x1), (2, .int x2)]) hx hb d_Md_clash_118 hl (by decide) rfl (fun ls hl => ?_)
                      have lp_120 : ∀ (n : Nat) (x1 : Int32) (x2 : Int32) (x3 : Int32) (x4 : Int32) (x5 : Int64) (x7 : Int64) (x9 : Int32) (x10 : Int32) (x11 : Int32) (md : MS) (Rl : Int32 × Int32), l_Md_clash_120 n x1 x2 x3 x4 x5 x7 x9 x10 x11 md = some Rl → ∀ (H : Heap) (locs : List Loc), va_P (dC, dI) vwCl (w_Md_ h_md ad_md tC md) H → va_D A (w_Md_ h_md ad_md tC md) → va_S A s.heap H locs → ∀ ls : Array Slot, lv_has ls 16 [(11, .int x11), (10, .int x10), (9, .int x9), (7, .long x7), (5, .long x5), (4, .int x4), (3, .int x3), (0, .ref h_md), (1, .int x1), (2, .int x2)] → (∀ (H : Heap) (locs : List Loc), va_P (dC, dI) vwCl (w_Md_ h_md ad_md tC md) H → va_D A (w_Md_ h_md ad_md tC md) → va_S A s.heap H locs → ∀ ls : Array Slot, lv_has ls 16 [(11, .int Rl.2), (10, .int x10), (9, .int Rl.1), (7, .long x7), (5, .long x5), (4, .int x4), (3, .int x3), (0, .ref h_md), (1, .int x1), (2, .int x2)] → W p l e rm_Md_clash s m args below meth c H locs 0 0 Q (F0 m 240 ls [])) → W p l e rm_Md_clash s m args below meth c H locs 0 0 Q (F0 m 120 ls []) := by
                        intro n
                        induction n with
                        | zero => intro x1 x2 x3 x4 x5 x7 x9 x10 x11 md Rl hf; cases hf
                        | succ n ih_120 =>
                          intro x1 x2 x3 x4 x5 x7 x9 x10 x11 md Rl hf H locs hP hD hS ls hl Kk
                          rw [l_Md_clash_120] at hf
                          refine lv_iload hx hb d_Md_clash_120 (lv_at hl 0 rfl) ?_
                          refine lv_bipush (v := 6) hx hb d_Md_clash_122 (by decide) ?_
                          refine lv_iload hx hb d_Md_clash_124 (lv_at hl 5 rfl) ?_
                          refine lv_iadd hx hb d_Md_clash_126 ?_
                          refine lv_icmp_ge (tgt := 240) hx hb d_Md_clash_127 (by decide) (fun c25 => ?_) (fun c25 => ?_)
                          · have hf := op_t hf c25
                            obtain rfl := Option.some.inj hf
                            exact Kk _ _ hP hD hS _ (lv_sub hl [0, 1, 2, 3, 4, 5, 6, 7, 8, 9] rfl)
                          · have hf := op_e hf c25
                            refine lv_aload_n hx hb d_Md_clash_130 rfl (lv_at hl 7 rfl) ?_
                            refine va_get (D := (dC, dI)) (ci := 9) (v := .ref (ad_md 31)) (C := RX9) (T := TX9) (N := 46) hx hb hts in_X9 hown hK hP 0 rfl rfl 40 (by decide) (hts _ kF_9_105) (fun _ h9 => h9) rfl d_Md_clash_131 ?_
                            refine lv_iload hx hb d_Md_clash_134 (lv_at hl 1 rfl) ?_
                            obtain ⟨hi26, hf⟩ := op_if hf
                            refine va_lald (f := md.2.2 11) hx hb hK hP 32 1 rfl rfl (ix_in hi26) d_Md_clash_136 ?_
                            refine lv_aload_n hx hb d_Md_clash_137 rfl (lv_at hl 7 rfl) ?_
                            refine va_get (D := (dC, dI)) (ci := 9) (v := .ref (ad_md 32)) (C := RX9) (T := TX9) (N := 46) hx hb hts in_X9 hown hK hP 0 rfl rfl 41 (by decide) (hts _ kF_9_108) (fun _ h9 => h9) rfl d_Md_clash_138 ?_
                            refine lv_iload hx hb d_Md_clash_141 (lv_at hl 1 rfl) ?_
                            obtain ⟨hi27, hf⟩ := op_if hf
                            refine va_lald (f := md.2.2 12) hx hb hK hP 33 1 rfl rfl (ix_in hi27) d_Md_clash_143 ?_
                            refine lv_aload_n hx hb d_Md_clash_144 rfl (lv_at hl 7 rfl) ?_
                            refine va_get (D := (dC, dI)) (ci := 9) (v := .ref (ad_md 31)) (C := RX9) (T := TX9) (N := 46) hx hb hts in_X9 hown hK hP 0 rfl rfl 40 (by decide) (hts _ kF_9_105) (fun _ h9 => h9) rfl d_Md_clash_145 ?_
                            refine lv_iload hx hb d_Md_clash_148 (lv_at hl 0 rfl) ?_
                            obtain ⟨hi28, hf⟩ := op_if hf
                            refine va_lald (f := md.2.2 11) hx hb hK hP 32 1 rfl rfl (ix_in hi28) d_Md_clash_150 ?_
                            refine lv_aload_n hx hb d_Md_clash_151 rfl (lv_at hl 7 rfl) ?_
                            refine va_get (D := (dC, dI)) (ci := 9) (v := .ref (ad_md 32)) (C := RX9) (T := TX9) (N := 46) hx hb hts in_X9 hown hK hP 0 rfl rfl 41 (by decide) (hts _ kF_9_108) (fun _ h9 => h9) rfl d_Md_clash_152 ?_
                            refine lv_iload hx hb d_Md_clash_155 (lv_at hl 0 rfl) ?_
                            obtain ⟨hi29, hf⟩ := op_if hf
                            refine va_lald (f := md.2.2 12) hx hb hK hP 33 1 rfl rfl (ix_in hi29) d_Md_clash_157 ?_
                            obtain ⟨q30, hq30, hf⟩ := op_b hf
                            refine ro_go rfl (va_runS (As := [.long ((md.2.2 11) x10.toNatClampNeg), .long ((md.2.2 12) x10.toNatClampNeg), .long ((md.2.2 11) x11.toNatClampNeg), .long ((md.2.2 12) x11.toNatClampNeg)]) (rest := []) ⟨hx, hb, hml, hown, hts⟩ (m_Md_gap l dC dI tC ((md.2.2 11) x10.toNatClampNeg) ((md.2.2 12) x10.toNatClampNeg) ((md.2.2 11) x11.toNatClampNeg) ((md.2.2 12) x11.toNatClampNeg) q30 _  hq30) (cwS 4 hts (gd_S kM_9_243 kS_Md_gap kZ_9 kC_Md_gap) rfl rfl rfl (by decide +kernel) ⟨(Nat.le_of_ble_eq_true rfl), (Nat.le_of_ble_eq_true rfl)⟩) ⟨ro_blind, ro_pre hK⟩ rfl rfl hl.1 rfl (lv_room (Nat.le_of_ble_eq_true rfl)) d_Md_clash_158 ⟨(Nat.le_of_ble_eq_true rfl), (Nat.le_of_ble_eq_true rfl)⟩) ?_
                            refine W.eq (g2 := F0 m 161 ls [.long q30]) rfl ?_
                            refine lv_lstore (lv' := [(12, .long q30), (11, .int x11), (10, .int x10), (9, .int x9), (7, .long x7), (5, .long x5), (4, .int x4), (3, .int x3), (0, .ref h_md), (1, .int x1), (2, .int x2)]) hx hb d_Md_clash_161 hl (by decide) rfl (fun ls hl => ?_)
                            refine lv_aload_n hx hb d_Md_clash_163 rfl (lv_at hl 8 rfl) ?_
                            refine va_get (D := (dC, dI)) (ci := 9) (v := .ref (ad_md 33)) (C := RX9) (T := TX9) (N := 46) hx hb hts in_X9 hown hK hP 0 rfl rfl 42 (by decide) (hts _ kF_9_111) (fun _ h9 => h9) rfl d_Md_clash_164 ?_
                            refine lv_iload hx hb d_Md_clash_167 (lv_at hl 2 rfl) ?_
                            obtain ⟨hi31, hf⟩ := op_if hf
                            refine va_lald (f := md.2.2 13) hx hb hK hP 34 1 rfl rfl (ix_in hi31) d_Md_clash_169 ?_
                            refine lv_aload_n hx hb d_Md_clash_170 rfl (lv_at hl 8 rfl) ?_
                            refine va_get (D := (dC, dI)) (ci := 9) (v := .ref (ad_md 34)) (C := RX9) (T := TX9) (N := 46) hx hb hts in_X9 hown hK hP 0 rfl rfl 43 (by decide) (hts _ kF_9_114) (fun _ h9 => h9) rfl d_Md_clash_171 ?_
                            refine lv_iload hx hb d_Md_clash_174 (lv_at hl 2 rfl) ?_
                            obtain ⟨hi32, hf⟩ := op_if hf
                            refine va_lald (f := md.2.2 14) hx hb hK hP 35 1 rfl rfl (ix_in hi32) d_Md_clash_176 ?_
                            refine lv_aload_n hx hb d_Md_clash_177 rfl (lv_at hl 8 rfl) ?_
                            refine va_get (D := (dC, dI)) (ci := 9) (v := .ref (ad_md 33)) (C := RX9) (T := TX9) (N := 46) hx hb hts in_X9 hown hK hP 0 rfl rfl 42 (by decide) (hts _ kF_9_111) (fun _ h9 => h9) rfl d_Md_clash_178 ?_
                            refine lv_iload hx hb d_Md_clash_181 (lv_at hl 1 rfl) ?_
                            obtain ⟨hi33, hf⟩ := op_if hf
                            refine va_lald (f := md.2.2 13) hx hb hK hP 34 1 rfl rfl (ix_in hi33) d_Md_clash_183 ?_
                            refine lv_aload_n hx hb d_Md_clash_184 rfl (lv_at hl 8 rfl) ?_
                            refine va_get (D := (dC, dI)) (ci := 9) (v := .ref (ad_md 34)) (C := RX9) (T := TX9) (N := 46) hx hb hts in_X9 hown hK hP 0 rfl rfl 43 (by decide) (hts _ kF_9_114) (fun _ h9 => h9) rfl d_Md_clash_185 ?_
                            refine lv_iload hx hb d_Md_clash_188 (lv_at hl 1 rfl) ?_
                            obtain ⟨hi34, hf⟩ := op_if hf
                            refine va_lald (f := md.2.2 14) hx hb hK hP 35 1 rfl rfl (ix_in hi34) d_Md_clash_190 ?_
                            obtain ⟨q35, hq35, hf⟩ := op_b hf
                            refine ro_go rfl (va_runS (As := [.long ((md.2.2 13) x10.toNatClampNeg), .long ((md.2.2 14) x10.toNatClampNeg), .long ((md.2.2 13) x11.toNatClampNeg), .long ((md.2.2 14) x11.toNatClampNeg)]) (rest := []) ⟨hx, hb, hml, hown, hts⟩ (m_Md_gap l dC dI tC ((md.2.2 13) x10.toNatClampNeg) ((md.2.2 14) x10.toNatClampNeg) ((md.2.2 13) x11.toNatClampNeg) ((md.2.2 14) x11.toNatClampNeg) q35 _  hq35) (cwS 4 hts (gd_S kM_9_243 kS_Md_gap kZ_9 kC_Md_gap) rfl rfl rfl (by decide +kernel) ⟨(Nat.le_of_ble_eq_true rfl), (Nat.le_of_ble_eq_true rfl)⟩) ⟨ro_blind, ro_pre hK⟩ rfl rfl hl.1 rfl (lv_room (Nat.le_of_ble_eq_true rfl)) d_Md_clash_191 ⟨(Nat.le_of_ble_eq_true rfl), (Nat.le_of_ble_eq_true rfl)⟩) ?_
                            refine W.eq (g2 := F0 m 194 ls [.long q35]) rfl ?_
                            refine lv_lstore (lv' := [(14, .long q35), (12, .long q30), (11, .int x11), (10, .int x10), (9, .int x9), (7, .long x7), (5, .long x5), (4, .int x4), (3, .int x3), (0, .ref h_md), (1, .int x1), (2, .int x2)]) hx hb d_Md_clash_194 hl (by decide) rfl (fun ls hl => ?_)
                            refine lv_ldc2 (v := 4) hx hb hown (hts _ kK_9_142) d_Md_clash_196 ?_
                            refine lv_lload hx hb d_Md_clash_199 (lv_at hl 1 rfl) ?_
                            refine lv_lload hx hb d_Md_clash_201 (lv_at hl 1 rfl) ?_
                            refine lv_lmul hx hb d_Md_clash_203 ?_
                            refine lv_lload hx hb d_Md_clash_204 (lv_at hl 0 rfl) ?_
                            refine lv_lload hx hb d_Md_clash_206 (lv_at hl 0 rfl) ?_
                            refine lv_lmul hx hb d_Md_clash_208 ?_
                            refine lv_ladd hx hb d_Md_clash_209 ?_
                            refine lv_lload hx hb d_Md_clash_210 (lv_at hl 6 rfl) ?_
                            refine lv_lload hx hb d_Md_clash_212 (lv_at hl 6 rfl) ?_
                            refine lv_lmul hx hb d_Md_clash_214 ?_
                            refine lv_ladd hx hb d_Md_clash_215 ?_
                            refine lv_lmul hx hb d_Md_clash_216 ?_
                            refine lv_lload hx hb d_Md_clash_217 (lv_at hl 5 rfl) ?_
                            refine lv_lload hx hb d_Md_clash_219 (lv_at hl 5 rfl) ?_
                            refine lv_lmul hx hb d_Md_clash_221 ?_
                            refine W.lcmp hx hb d_Md_clash_222 ?_
                            refine lv_if_ge (tgt := 230) hx hb d_Md_clash_223 (by decide) (fun c36 => ?_) (fun c36 => ?_)
                            · have c36 := (lg_cmp_ge _ _).mp c36
                              have hf := op_t hf c36
                              refine lv_iload hx hb d_Md_clash_230 (lv_at hl 4 rfl) ?_
                              refine lv_istore (lv' := [(9, .int x9), (14, .long q35), (12, .long q30), (11, .int x11), (10, .int x10), (7, .long x7), (5, .long x5), (4, .int x4), (3, .int x3), (0, .ref h_md), (1, .int x1), (2, .int x2)]) hx hb d_Md_clash_232 hl (by decide) rfl (fun ls hl => ?_)
                              refine lv_iinc (v := x11 + 1) (lv' := [(11, .int (x11 + 1)), (9, .int x9), (14, .long q35), (12, .long q30), (10, .int x10), (7, .long x7), (5, .long x5), (4, .int x4), (3, .int x3), (0, .ref h_md), (1, .int x1), (2, .int x2)]) hx hb d_Md_clash_234 hl (k := 3) rfl rfl (by decide) rfl (fun ls hl => ?_)
                              refine lv_goto (tgt := 120) hx hb d_Md_clash_237 (by decide) ?_
                              exact ih_120 x1 x2 x3 x4 x5 x7 x9 x10 (x11 + 1) md Rl hf _ _ hP hD hS _ (lv_sub hl [0, 4, 1, 5, 6, 7, 8, 9, 10, 11] rfl) Kk
                            · have c36 := fun h9 => c36 ((lg_cmp_ge _ _).mpr h9)
                              have hf := op_e hf c36
                              refine lv_iconst (v := 1) hx hb d_Md_clash_226 (by decide) ?_
                              refine lv_goto (tgt := 232) hx hb d_Md_clash_227 (by decide) ?_
                              refine lv_istore (lv' := [(9, .int 1), (14, .long q35), (12, .long q30), (11, .int x11), (10, .int x10), (7, .long x7), (5, .long x5), (4, .int x4), (3, .int x3), (0, .ref h_md), (1, .int x1), (2, .int x2)]) hx hb d_Md_clash_232 hl (by decide) rfl (fun ls hl => ?_)
                              refine lv_iinc (v := x11 + 1) (lv' := [(11, .int (x11 + 1)), (9, .int 1), (14, .long q35), (12, .long q30), (10, .int x10), (7, .long x7), (5, .long x5), (4, .int x4), (3, .int x3), (0, .ref h_md), (1, .int x1), (2, .int x2)]) hx hb d_Md_clash_234 hl (k := 3) rfl rfl (by decide) rfl (fun ls hl => ?_)
                              refine lv_goto (tgt := 120) hx hb d_Md_clash_237 (by decide) ?_
                              exact ih_120 x1 x2 x3 x4 x5 x7 1 x10 (x11 + 1) md Rl hf _ _ hP hD hS _ (lv_sub hl [0, 4, 1, 5, 6, 7, 8, 9, 10, 11] rfl) Kk
                      obtain ⟨q24, hq24, hf⟩ := op_b hf
                      refine lp_120 fu x1 x2 x3 x4 x5 x7 x9 x10 6 md q24 hq24 _ _ hP hD hS _ (lv_sub hl [0, 1, 2, 3, 4, 5, 6, 7, 8, 9] rfl) ?_
                      intro H locs hP hD hS ls hl
                      refine lv_iinc (v := x10 + 1) (lv' := [(10, .int (x10 + 1)), (11, .int q24.2), (9, .int q24.1), (7, .long x7), (5, .long x5), (4, .int x4), (3, .int x3), (0, .ref h_md), (1, .int x1), (2, .int x2)]) hx hb d_Md_clash_240 hl (k := 1) rfl rfl (by decide) rfl (fun ls hl => ?_)
                      refine lv_goto (tgt := 110) hx hb d_Md_clash_243 (by decide) ?_
                      exact ih_110 x1 x2 x3 x4 x5 x7 q24.1 (x10 + 1) md Rl hf _ _ hP hD hS _ (lv_sub hl [0, 2, 3, 4, 5, 6, 7, 8, 9] rfl) Kk
                obtain ⟨q22, hq22, hf⟩ := op_b hf
                refine lp_110 fu p1 p2 q14.1 q15.1 v18 v21 0 0 q15.2 q22 hq22 _ _ hP hD hS _ (lv_sub hl [0, 1, 2, 3, 4, 5, 6, 7, 8] rfl) ?_
                intro H locs hP hD hS ls hl
                refine lv_iload hx hb d_Md_clash_246 (lv_at hl 1 rfl) ?_
                obtain rfl := Option.some.inj hf
                subst hQ
                subst hAe
                exact W.iret (v := q22.1) hx hb hr (fun t ht hW => ⟨⟨_, _, rfl, ⟨rfl, rfl⟩, by rw [ht]; exact hP, hD⟩, hS.F ht⟩) hS.2.2 d_Md_clash_248
              · have hf := op_t hf c13
                refine lv_iconst (v := (-1)) hx hb d_Md_clash_55 (by decide) ?_
                obtain rfl := Option.some.inj hf
                subst hQ
                subst hAe
                exact W.iret (v := (-1)) hx hb hr (fun t ht hW => ⟨⟨_, _, rfl, ⟨rfl, rfl⟩, by rw [ht]; exact hP, hD⟩, hS.F ht⟩) hS.2.2 d_Md_clash_56
def l_Md_lap_35 : Nat → Int32 → Int64 → Int32 → Int64 → Int32 → MS → Option (Int64 × Int32)
  | 0, _, _, _, _, _, _ => none
  | n + 1, x1, x2, x4, x5, x7, md => if ix x4 41 then (if ((md.2.1 7) x4.toNatClampNeg) ≤ x7 then some (x5, x7) else if ix ((3 * x4) + x7) 123 then (some ((md.2.2 5) ((3 * x4) + x7).toNatClampNeg) : Option Int64).bind fun v11 => (if v11 ≤ x5 then l_Md_lap_35 n x1 x2 x4 x5 (x7 + 1) md else l_Md_lap_35 n x1 x2 x4 v11 (x7 + 1) md) else none) else none
def l_Md_lap_103 : Nat → Int32 → Int64 → Int32 → Int64 → Int32 → MS → Option (Int32)
  | 0, _, _, _, _, _, _ => none
  | n + 1, x1, x2, x4, x5, x7, md => (f_Md_lengthOf md x1).bind fun q16 => (if q16 ≤ ((((x7 + 1).toInt64) * x5) - (x7.toInt64 * x2)) then some (x7) else l_Md_lap_103 n x1 x2 x4 x5 (x7 + 1) md)
def f_Md_lap (md : MS) (p1 : Int32) (p2 : Int64) : Option (Int32) := (f_Md_isLine md p1).bind fun q1 => (if q1 = 0 then some (-1) else (f_Md_isIn p2 0 5000).bind fun q3 => (if q3 = 0 then some (-1) else if ix p1 12 then (some ((md.2.1 4) p1.toNatClampNeg) : Option Int32).bind fun v6 => (l_Md_lap_35 fu p1 p2 v6 0 0 md).bind fun q7 => (if q7.1 = 0 then some (-1) else (if p2 < q7.1 then (l_Md_lap_103 fu p1 p2 v6 q7.1 0 md).bind fun q15 => some q15 else some (-1))) else none))
def rm_Md_lap : Room := { frames := 2, cells := 0, slots := 0, locals := 49 }
set_option maxHeartbeats 4000000 in
set_option maxRecDepth 100000 in
theorem m_Md_lap (l : Launch) (dC : Nat → ClassId) (dI : Nat → Nat → Nat) (tC : Nat → ClassId) (h_md : Nat) (ad_md : Nat → Nat) (md : MS) (p1 : Int32) (p2 : Int64) (R : Int32) (H : Heap) (hP : va_P (dC, dI) vwCl (w_Md_ h_md ad_md tC md) H) (hf : f_Md_lap md p1 p2 = some R) : Met l y_Md_lap w_Md_lap rm_Md_lap (roP (dC, dI) tC H [.ref h_md, .int p1, .long p2]) (roQ H (some (.int R))) 0 0 (fun _ => False) := by
  refine Met.ofW (cc := c_Md_lap) (maxL := 10) (ret := (some (.int))) (by decide) rfl ?_
  intro p e s m args below meth c s₁ B hml hv
  obtain ⟨hav, hH, hK⟩ := hv
  have hx := B.exec
  have hb := B.bytes
  have hr := B.returns
  have hts : ∀ w ∈ gw, w.before args s = true := fun w h => atoms_spec (ws := w_Md_lap) B.pre w (List.mem_cons_of_mem _ h)
  have hown : s.vm.findClass RX9 = some m.cls := findClass_of_methodNamed B.named
  have hlocks := B.notSynchronized
  subst hH
  refine q_w (R := rm_Md_lap) (fun Q hQ => ?_)
  refine en_w (av := [.ref h_md, .int p1, .long p2]) hav (Nat.le_of_ble_eq_true rfl) (fun ls hl => ?_)
  have hl : lv_has ls 10 [(0, .ref h_md), (1, .int p1), (2, .long p2)] := hl
  unfold f_Md_lap at hf
  refine lv_aload_n hx hb d_Md_lap_0 rfl (lv_at hl 0 rfl) ?_
  refine lv_iload_n hx hb d_Md_lap_1 rfl (lv_at hl 1 rfl) ?_
  obtain ⟨q1, hq1, hf⟩ := op_b hf
  refine ro_go rfl (va_runV (As := [.int p1]) (rest := []) ⟨hx, hb, hml, hown, hts⟩ (m_Md_isLine l dC dI tC h_md ad_md md p1 q1 _ hP hq1) (cwV 1 hts (gd_V kM_9_154 kI_Md_isLine kV_Md_isLine kZ_9 kC_Md_isLine) rfl rfl rfl (by decide +kernel) ⟨(Nat.le_of_ble_eq_true rfl), (Nat.le_of_ble_eq_true rfl)⟩) ⟨ro_blind, va_recv hK hP (ci := 9) (q0 := 0) rfl rfl, ro_pre hK⟩ rfl rfl hl.1 rfl (lv_room (Nat.le_of_ble_eq_true rfl)) d_Md_lap_2 ⟨(Nat.le_of_ble_eq_true rfl), (Nat.le_of_ble_eq_true rfl)⟩) ?_
  refine W.eq (g2 := F0 m 5 ls [.int q1]) rfl ?_
  refine lv_if_eq (tgt := 19) hx hb d_Md_lap_5 (by decide) (fun c2 => ?_) (fun c2 => ?_)
  · have hf := op_t hf c2
    refine lv_iconst (v := (-1)) hx hb d_Md_lap_19 (by decide) ?_
    obtain rfl := Option.some.inj hf
    subst hQ
    exact W.iret (v := (-1)) hx hb hr (fun t ht hW => ⟨rfl, ht⟩) (fun q h => by cases h) d_Md_lap_20
  · have hf := op_e hf c2
    refine lv_lload_n hx hb d_Md_lap_8 rfl (lv_at hl 2 rfl) ?_
    refine lv_lconst (v := 0) hx hb d_Md_lap_9 (by decide) ?_
    refine lv_ldc2 (v := 5000) hx hb hown (hts _ kK_9_247) d_Md_lap_10 ?_
    obtain ⟨q3, hq3, hf⟩ := op_b hf
    refine ro_go rfl (va_runS (As := [.long p2, .long 0, .long 5000]) (rest := []) ⟨hx, hb, hml, hown, hts⟩ (m_Md_isIn l dC dI tC p2 0 5000 q3 _  hq3) (cwS 3 hts (gd_S kM_9_128 kS_Md_isIn kZ_9 kC_Md_isIn) rfl rfl rfl (by decide +kernel) ⟨(Nat.le_of_ble_eq_true rfl), (Nat.le_of_ble_eq_true rfl)⟩) ⟨ro_blind, ro_pre hK⟩ rfl rfl hl.1 rfl (lv_room (Nat.le_of_ble_eq_true rfl)) d_Md_lap_13 ⟨(Nat.le_of_ble_eq_true rfl), (Nat.le_of_ble_eq_true rfl)⟩) ?_
    refine W.eq (g2 := F0 m 16 ls [.int q3]) rfl ?_
    refine lv_if_ne (tgt := 21) hx hb d_Md_lap_16 (by decide) (fun c4 => ?_) (fun c4 => ?_)
    · have hf := op_e hf c4
      refine lv_aload_n hx hb d_Md_lap_21 rfl (lv_at hl 0 rfl) ?_
      refine va_get (D := (dC, dI)) (ci := 9) (v := .ref (ad_md 5)) (C := RX9) (T := TX9) (N := 46) hx hb hts in_X9 hown hK hP 0 rfl rfl 8 (by decide) (hts _ kF_9_26) (fun _ h9 => h9) rfl d_Md_lap_22 ?_
      refine lv_iload_n hx hb d_Md_lap_25 rfl (lv_at hl 1 rfl) ?_
      obtain ⟨hi5, hf⟩ := op_if hf
      refine va_iald (f := md.2.1 4) hx hb hK hP 6 0 rfl rfl (ix_in hi5) d_Md_lap_26 ?_
      obtain ⟨v6, hv6, hf⟩ := op_b hf
      refine rw_i (y := v6) (Option.some.inj hv6) ?_
      refine lv_istore (lv' := [(4, .int v6), (0, .ref h_md), (1, .int p1), (2, .long p2)]) hx hb d_Md_lap_27 hl (by decide) rfl (fun ls hl => ?_)
      refine lv_lconst (v := 0) hx hb d_Md_lap_29 (by decide) ?_
      refine lv_lstore (lv' := [(5, .long 0), (4, .int v6), (0, .ref h_md), (1, .int p1), (2, .long p2)]) hx hb d_Md_lap_30 hl (by decide) rfl (fun ls hl => ?_)
      refine lv_iconst (v := 0) hx hb d_Md_lap_32 (by decide) ?_
      refine lv_istore (lv' := [(7, .int 0), (5, .long 0), (4, .int v6), (0, .ref h_md), (1, .int p1), (2, .long p2)]) hx hb d_Md_lap_33 hl (by decide) rfl (fun ls hl => ?_)
      have lp_35 : ∀ (n : Nat) (x1 : Int32) (x2 : Int64) (x4 : Int32) (x5 : Int64) (x7 : Int32) (Rl : Int64 × Int32), l_Md_lap_35 n x1 x2 x4 x5 x7 md = some Rl → ∀ ls : Array Slot, lv_has ls 10 [(7, .int x7), (5, .long x5), (4, .int x4), (0, .ref h_md), (1, .int x1), (2, .long x2)] → (∀ ls : Array Slot, lv_has ls 10 [(7, .int Rl.2), (5, .long Rl.1), (4, .int x4), (0, .ref h_md), (1, .int x1), (2, .long x2)] → W p l e rm_Md_lap s m args below meth c s.heap [] 0 0 Q (F0 m 84 ls [])) → W p l e rm_Md_lap s m args below meth c s.heap [] 0 0 Q (F0 m 35 ls []) := by
        intro n
        induction n with
        | zero => intro x1 x2 x4 x5 x7 Rl hf; cases hf
        | succ n ih_35 =>
          intro x1 x2 x4 x5 x7 Rl hf ls hl Kk
          rw [l_Md_lap_35] at hf
          refine lv_iload hx hb d_Md_lap_35 (lv_at hl 0 rfl) ?_
          refine lv_aload_n hx hb d_Md_lap_37 rfl (lv_at hl 3 rfl) ?_
          refine va_get (D := (dC, dI)) (ci := 9) (v := .ref (ad_md 12)) (C := RX9) (T := TX9) (N := 46) hx hb hts in_X9 hown hK hP 0 rfl rfl 15 (by decide) (hts _ kF_9_48) (fun _ h9 => h9) rfl d_Md_lap_38 ?_
          refine lv_iload hx hb d_Md_lap_41 (lv_at hl 2 rfl) ?_
          obtain ⟨hi8, hf⟩ := op_if hf
          refine va_iald (f := md.2.1 7) hx hb hK hP 13 0 rfl rfl (ix_in hi8) d_Md_lap_43 ?_
          refine lv_icmp_ge (tgt := 84) hx hb d_Md_lap_44 (by decide) (fun c9 => ?_) (fun c9 => ?_)
          · have hf := op_t hf c9
            obtain rfl := Option.some.inj hf
            exact Kk _ (lv_sub hl [0, 1, 2, 3, 4, 5] rfl)
          · have hf := op_e hf c9
            refine lv_aload_n hx hb d_Md_lap_47 rfl (lv_at hl 3 rfl) ?_
            refine va_get (D := (dC, dI)) (ci := 9) (v := .ref (ad_md 13)) (C := RX9) (T := TX9) (N := 46) hx hb hts in_X9 hown hK hP 0 rfl rfl 16 (by decide) (hts _ kF_9_51) (fun _ h9 => h9) rfl d_Md_lap_48 ?_
            refine lv_iconst (v := 3) hx hb d_Md_lap_51 (by decide) ?_
            refine lv_iload hx hb d_Md_lap_52 (lv_at hl 2 rfl) ?_
            refine lv_imul hx hb d_Md_lap_54 ?_
            refine lv_iload hx hb d_Md_lap_55 (lv_at hl 0 rfl) ?_
            refine lv_iadd hx hb d_Md_lap_57 ?_
            obtain ⟨hi10, hf⟩ := op_if hf
            refine va_lald (f := md.2.2 5) hx hb hK hP 14 1 rfl rfl (ix_in hi10) d_Md_lap_58 ?_
            obtain ⟨v11, hv11, hf⟩ := op_b hf
            refine rw_l (y := v11) (Option.some.inj hv11) ?_
            refine lv_lstore (lv' := [(8, .long v11), (7, .int x7), (5, .long x5), (4, .int x4), (0, .ref h_md), (1, .int x1), (2, .long x2)]) hx hb d_Md_lap_59 hl (by decide) rfl (fun ls hl => ?_)
            refine lv_lload hx hb d_Md_lap_61 (lv_at hl 0 rfl) ?_
            refine lv_lload hx hb d_Md_lap_63 (lv_at hl 2 rfl) ?_
            refine W.lcmp hx hb d_Md_lap_65 ?_
            refine lv_if_le (tgt := 74) hx hb d_Md_lap_66 (by decide) (fun c12 => ?_) (fun c12 => ?_)
            · have c12 := (lg_cmp_le _ _).mp c12
              have hf := op_t hf c12
              refine lv_lload hx hb d_Md_lap_74 (lv_at hl 2 rfl) ?_
              refine lv_lstore (lv' := [(5, .long x5), (8, .long v11), (7, .int x7), (4, .int x4), (0, .ref h_md), (1, .int x1), (2, .long x2)]) hx hb d_Md_lap_76 hl (by decide) rfl (fun ls hl => ?_)
              refine lv_iinc (v := x7 + 1) (lv' := [(7, .int (x7 + 1)), (5, .long x5), (8, .long v11), (4, .int x4), (0, .ref h_md), (1, .int x1), (2, .long x2)]) hx hb d_Md_lap_78 hl (k := 2) rfl rfl (by decide) rfl (fun ls hl => ?_)
              refine lv_goto (tgt := 35) hx hb d_Md_lap_81 (by decide) ?_
              exact ih_35 x1 x2 x4 x5 (x7 + 1) Rl hf _ (lv_sub hl [0, 1, 3, 4, 5, 6] rfl) Kk
            · have c12 := fun h9 => c12 ((lg_cmp_le _ _).mpr h9)
              have hf := op_e hf c12
              refine lv_lload hx hb d_Md_lap_69 (lv_at hl 0 rfl) ?_
              refine lv_goto (tgt := 76) hx hb d_Md_lap_71 (by decide) ?_
              refine lv_lstore (lv' := [(5, .long v11), (8, .long v11), (7, .int x7), (4, .int x4), (0, .ref h_md), (1, .int x1), (2, .long x2)]) hx hb d_Md_lap_76 hl (by decide) rfl (fun ls hl => ?_)
              refine lv_iinc (v := x7 + 1) (lv' := [(7, .int (x7 + 1)), (5, .long v11), (8, .long v11), (4, .int x4), (0, .ref h_md), (1, .int x1), (2, .long x2)]) hx hb d_Md_lap_78 hl (k := 2) rfl rfl (by decide) rfl (fun ls hl => ?_)
              refine lv_goto (tgt := 35) hx hb d_Md_lap_81 (by decide) ?_
              exact ih_35 x1 x2 x4 v11 (x7 + 1) Rl hf _ (lv_sub hl [0, 1, 3, 4, 5, 6] rfl) Kk
      obtain ⟨q7, hq7, hf⟩ := op_b hf
      refine lp_35 fu p1 p2 v6 0 0 q7 hq7 _ (lv_sub hl [0, 1, 2, 3, 4, 5] rfl) ?_
      intro ls hl
      refine lv_lload hx hb d_Md_lap_84 (lv_at hl 1 rfl) ?_
      refine lv_lconst (v := 0) hx hb d_Md_lap_86 (by decide) ?_
      refine W.lcmp hx hb d_Md_lap_87 ?_
      refine lv_if_eq (tgt := 98) hx hb d_Md_lap_88 (by decide) (fun c13 => ?_) (fun c13 => ?_)
      · have c13 := (lg_cmp_eq _ _).mp c13
        have hf := op_t hf c13
        refine lv_iconst (v := (-1)) hx hb d_Md_lap_98 (by decide) ?_
        obtain rfl := Option.some.inj hf
        subst hQ
        exact W.iret (v := (-1)) hx hb hr (fun t ht hW => ⟨rfl, ht⟩) (fun q h => by cases h) d_Md_lap_99
      · have c13 := fun h9 => c13 ((lg_cmp_eq _ _).mpr h9)
        have hf := op_e hf c13
        refine lv_lload_n hx hb d_Md_lap_91 rfl (lv_at hl 5 rfl) ?_
        refine lv_lload hx hb d_Md_lap_92 (lv_at hl 1 rfl) ?_
        refine W.lcmp hx hb d_Md_lap_94 ?_
        refine lv_if_lt (tgt := 100) hx hb d_Md_lap_95 (by decide) (fun c14 => ?_) (fun c14 => ?_)
        · have c14 := (lg_cmp_lt _ _).mp c14
          have hf := op_t hf c14
          refine lv_iconst (v := 0) hx hb d_Md_lap_100 (by decide) ?_
          refine lv_istore (lv' := [(7, .int 0), (5, .long q7.1), (4, .int v6), (0, .ref h_md), (1, .int p1), (2, .long p2)]) hx hb d_Md_lap_101 hl (by decide) rfl (fun ls hl => ?_)
          have lp_103 : ∀ (n : Nat) (x1 : Int32) (x2 : Int64) (x4 : Int32) (x5 : Int64) (x7 : Int32) (Rl : Int32), l_Md_lap_103 n x1 x2 x4 x5 x7 md = some Rl → ∀ ls : Array Slot, lv_has ls 10 [(7, .int x7), (5, .long x5), (4, .int x4), (0, .ref h_md), (1, .int x1), (2, .long x2)] → (∀ ls : Array Slot, lv_has ls 10 [(7, .int Rl), (5, .long x5), (4, .int x4), (0, .ref h_md), (1, .int x1), (2, .long x2)] → W p l e rm_Md_lap s m args below meth c s.heap [] 0 0 Q (F0 m 132 ls [])) → W p l e rm_Md_lap s m args below meth c s.heap [] 0 0 Q (F0 m 103 ls []) := by
            intro n
            induction n with
            | zero => intro x1 x2 x4 x5 x7 Rl hf; cases hf
            | succ n ih_103 =>
              intro x1 x2 x4 x5 x7 Rl hf ls hl Kk
              rw [l_Md_lap_103] at hf
              refine lv_iload hx hb d_Md_lap_103 (lv_at hl 0 rfl) ?_
              refine lv_iconst (v := 1) hx hb d_Md_lap_105 (by decide) ?_
              refine lv_iadd hx hb d_Md_lap_106 ?_
              refine lv_i2l (v := (x7 + 1).toInt64) hx hb d_Md_lap_107 rfl ?_
              refine lv_lload hx hb d_Md_lap_108 (lv_at hl 1 rfl) ?_
              refine lv_lmul hx hb d_Md_lap_110 ?_
              refine lv_iload hx hb d_Md_lap_111 (lv_at hl 0 rfl) ?_
              refine lv_i2l (v := x7.toInt64) hx hb d_Md_lap_113 rfl ?_
              refine lv_lload_n hx hb d_Md_lap_114 rfl (lv_at hl 5 rfl) ?_
              refine lv_lmul hx hb d_Md_lap_115 ?_
              refine lv_lsub hx hb d_Md_lap_116 ?_
              refine lv_aload_n hx hb d_Md_lap_117 rfl (lv_at hl 3 rfl) ?_
              refine lv_iload_n hx hb d_Md_lap_118 rfl (lv_at hl 4 rfl) ?_
              obtain ⟨q16, hq16, hf⟩ := op_b hf
              refine ro_go rfl (va_runV (As := [.int x1]) (rest := [.long ((((x7 + 1).toInt64) * x5) - (x7.toInt64 * x2))]) ⟨hx, hb, hml, hown, hts⟩ (m_Md_lengthOf l dC dI tC h_md ad_md md x1 q16 _ hP hq16) (cwV 1 hts (gd_V kM_9_172 kI_Md_lengthOf kV_Md_lengthOf kZ_9 kC_Md_lengthOf) rfl rfl rfl (by decide +kernel) ⟨(Nat.le_of_ble_eq_true rfl), (Nat.le_of_ble_eq_true rfl)⟩) ⟨ro_blind, va_recv hK hP (ci := 9) (q0 := 0) rfl rfl, ro_pre hK⟩ rfl rfl hl.1 rfl (lv_room (Nat.le_of_ble_eq_true rfl)) d_Md_lap_119 ⟨(Nat.le_of_ble_eq_true rfl), (Nat.le_of_ble_eq_true rfl)⟩) ?_
              refine W.eq (g2 := F0 m 122 ls [.long q16, .long ((((x7 + 1).toInt64) * x5) - (x7.toInt64 * x2))]) rfl ?_
              refine W.lcmp hx hb d_Md_lap_122 ?_
              refine lv_if_ge (tgt := 132) hx hb d_Md_lap_123 (by decide) (fun c17 => ?_) (fun c17 => ?_)
              · have c17 := (lg_cmp_ge _ _).mp c17
                have hf := op_t hf c17
                obtain rfl := Option.some.inj hf
                exact Kk _ (lv_sub hl [0, 1, 2, 3, 4, 5] rfl)
              · have c17 := fun h9 => c17 ((lg_cmp_ge _ _).mpr h9)
                have hf := op_e hf c17
                refine lv_iinc (v := x7 + 1) (lv' := [(7, .int (x7 + 1)), (5, .long x5), (4, .int x4), (0, .ref h_md), (1, .int x1), (2, .long x2)]) hx hb d_Md_lap_126 hl (k := 0) rfl rfl (by decide) rfl (fun ls hl => ?_)
                refine lv_goto (tgt := 103) hx hb d_Md_lap_129 (by decide) ?_
                exact ih_103 x1 x2 x4 x5 (x7 + 1) Rl hf _ (lv_sub hl [0, 1, 2, 3, 4, 5] rfl) Kk
          obtain ⟨q15, hq15, hf⟩ := op_b hf
          refine lp_103 fu p1 p2 v6 q7.1 0 q15 hq15 _ (lv_sub hl [0, 1, 2, 3, 4, 5] rfl) ?_
          intro ls hl
          refine lv_iload hx hb d_Md_lap_132 (lv_at hl 0 rfl) ?_
          obtain rfl := Option.some.inj hf
          subst hQ
          exact W.iret (v := q15) hx hb hr (fun t ht hW => ⟨rfl, ht⟩) (fun q h => by cases h) d_Md_lap_134
        · have c14 := fun h9 => c14 ((lg_cmp_lt _ _).mpr h9)
          have hf := op_e hf c14
          refine lv_iconst (v := (-1)) hx hb d_Md_lap_98 (by decide) ?_
          obtain rfl := Option.some.inj hf
          subst hQ
          exact W.iret (v := (-1)) hx hb hr (fun t ht hW => ⟨rfl, ht⟩) (fun q h => by cases h) d_Md_lap_99
    · have hf := op_t hf c4
      refine lv_iconst (v := (-1)) hx hb d_Md_lap_19 (by decide) ?_
      obtain rfl := Option.some.inj hf
      subst hQ
      exact W.iret (v := (-1)) hx hb hr (fun t ht hW => ⟨rfl, ht⟩) (fun q h => by cases h) d_Md_lap_20
def l_Md_weight_59 : Nat → Int32 → Int32 → Int64 → Int64 → Int64 → MS → Option (Int64 × Int64)
  | 0, _, _, _, _, _, _ => none
  | n + 1, x1, x2, x3, x5, x7, md => (if x7 ≤ 0 then some (x5, x7) else if x7 = 0 then none else (some (x5 - x5 / x7 * x7) : Option Int64).bind fun v13 => l_Md_weight_59 n x1 x2 x3 x7 v13 md)
def f_Md_weight (md : MS) (p1 : Int32) (p2 : Int32) : Option (Int64) := (f_Md_isLine md p1).bind fun q1 => (if q1 = 0 then some (-1) else (if p2 < 0 then some (-1) else (if p2 ≤ 1 then if ix p1 12 then if ix p1 12 then (f_Md_lengthOf md p1).bind fun q7 => if ix p1 12 then (some ((((((md.2.1 4) p1.toNatClampNeg).toInt64) * (((md.2.1 4) p1.toNatClampNeg).toInt64)) * q7) * (((md.2.1 5) p1.toNatClampNeg).toInt64)) : Option Int64).bind fun v9 => (l_Md_weight_59 fu p1 p2 v9 v9 162 md).bind fun q10 => (if p2 = 0 then if q10.1 = 0 then none else some (v9 / q10.1) else if q10.1 = 0 then none else some (162 / q10.1)) else none else none else none else some (-1))))
def rm_Md_weight : Room := { frames := 2, cells := 0, slots := 0, locals := 49 }
set_option maxHeartbeats 4000000 in
set_option maxRecDepth 100000 in
theorem m_Md_weight (l : Launch) (dC : Nat → ClassId) (dI : Nat → Nat → Nat) (tC : Nat → ClassId) (h_md : Nat) (ad_md : Nat → Nat) (md : MS) (p1 : Int32) (p2 : Int32) (R : Int64) (H : Heap) (hP : va_P (dC, dI) vwCl (w_Md_ h_md ad_md tC md) H) (hf : f_Md_weight md p1 p2 = some R) : Met l y_Md_weight w_Md_weight rm_Md_weight (roP (dC, dI) tC H [.ref h_md, .int p1, .int p2]) (roQ H (some (.long R))) 0 0 (fun _ => False) := by
  refine Met.ofW (cc := c_Md_weight) (maxL := 11) (ret := (some (.long))) (by decide) rfl ?_
  intro p e s m args below meth c s₁ B hml hv
  obtain ⟨hav, hH, hK⟩ := hv
  have hx := B.exec
  have hb := B.bytes
  have hr := B.returns
  have hts : ∀ w ∈ gw, w.before args s = true := fun w h => atoms_spec (ws := w_Md_weight) B.pre w (List.mem_cons_of_mem _ h)
  have hown : s.vm.findClass RX9 = some m.cls := findClass_of_methodNamed B.named
  have hlocks := B.notSynchronized
  subst hH
  refine q_w (R := rm_Md_weight) (fun Q hQ => ?_)
  refine en_w (av := [.ref h_md, .int p1, .int p2]) hav (Nat.le_of_ble_eq_true rfl) (fun ls hl => ?_)
  have hl : lv_has ls 11 [(0, .ref h_md), (1, .int p1), (2, .int p2)] := hl
  unfold f_Md_weight at hf
  refine lv_aload_n hx hb d_Md_weight_0 rfl (lv_at hl 0 rfl) ?_
  refine lv_iload_n hx hb d_Md_weight_1 rfl (lv_at hl 1 rfl) ?_
  obtain ⟨q1, hq1, hf⟩ := op_b hf
  refine ro_go rfl (va_runV (As := [.int p1]) (rest := []) ⟨hx, hb, hml, hown, hts⟩ (m_Md_isLine l dC dI tC h_md ad_md md p1 q1 _ hP hq1) (cwV 1 hts (gd_V kM_9_154 kI_Md_isLine kV_Md_isLine kZ_9 kC_Md_isLine) rfl rfl rfl (by decide +kernel) ⟨(Nat.le_of_ble_eq_true rfl), (Nat.le_of_ble_eq_true rfl)⟩) ⟨ro_blind, va_recv hK hP (ci := 9) (q0 := 0) rfl rfl, ro_pre hK⟩ rfl rfl hl.1 rfl (lv_room (Nat.le_of_ble_eq_true rfl)) d_Md_weight_2 ⟨(Nat.le_of_ble_eq_true rfl), (Nat.le_of_ble_eq_true rfl)⟩) ?_
  refine W.eq (g2 := F0 m 5 ls [.int q1]) rfl ?_
  refine lv_if_eq (tgt := 17) hx hb d_Md_weight_5 (by decide) (fun c2 => ?_) (fun c2 => ?_)
  · have hf := op_t hf c2
    refine lv_ldc2 (v := (-1)) hx hb hown (hts _ kK_9_170) d_Md_weight_17 ?_
    obtain rfl := Option.some.inj hf
    subst hQ
    exact W.lret (v := (-1)) hx hb hr (fun t ht hW => ⟨rfl, ht⟩) (fun q h => by cases h) d_Md_weight_20
  · have hf := op_e hf c2
    refine lv_iload_n hx hb d_Md_weight_8 rfl (lv_at hl 2 rfl) ?_
    refine lv_if_lt (tgt := 17) hx hb d_Md_weight_9 (by decide) (fun c3 => ?_) (fun c3 => ?_)
    · have hf := op_t hf c3
      refine lv_ldc2 (v := (-1)) hx hb hown (hts _ kK_9_170) d_Md_weight_17 ?_
      obtain rfl := Option.some.inj hf
      subst hQ
      exact W.lret (v := (-1)) hx hb hr (fun t ht hW => ⟨rfl, ht⟩) (fun q h => by cases h) d_Md_weight_20
    · have hf := op_e hf c3
      refine lv_iload_n hx hb d_Md_weight_12 rfl (lv_at hl 2 rfl) ?_
      refine lv_iconst (v := 1) hx hb d_Md_weight_13 (by decide) ?_
      refine lv_icmp_le (tgt := 21) hx hb d_Md_weight_14 (by decide) (fun c4 => ?_) (fun c4 => ?_)
      · have hf := op_t hf c4
        refine lv_aload_n hx hb d_Md_weight_21 rfl (lv_at hl 0 rfl) ?_
        refine va_get (D := (dC, dI)) (ci := 9) (v := .ref (ad_md 5)) (C := RX9) (T := TX9) (N := 46) hx hb hts in_X9 hown hK hP 0 rfl rfl 8 (by decide) (hts _ kF_9_26) (fun _ h9 => h9) rfl d_Md_weight_22 ?_
        refine lv_iload_n hx hb d_Md_weight_25 rfl (lv_at hl 1 rfl) ?_
        obtain ⟨hi5, hf⟩ := op_if hf
        refine va_iald (f := md.2.1 4) hx hb hK hP 6 0 rfl rfl (ix_in hi5) d_Md_weight_26 ?_
        refine lv_i2l (v := ((md.2.1 4) p1.toNatClampNeg).toInt64) hx hb d_Md_weight_27 rfl ?_
        refine lv_aload_n hx hb d_Md_weight_28 rfl (lv_at hl 0 rfl) ?_
        refine va_get (D := (dC, dI)) (ci := 9) (v := .ref (ad_md 5)) (C := RX9) (T := TX9) (N := 46) hx hb hts in_X9 hown hK hP 0 rfl rfl 8 (by decide) (hts _ kF_9_26) (fun _ h9 => h9) rfl d_Md_weight_29 ?_
        refine lv_iload_n hx hb d_Md_weight_32 rfl (lv_at hl 1 rfl) ?_
        obtain ⟨hi6, hf⟩ := op_if hf
        refine va_iald (f := md.2.1 4) hx hb hK hP 6 0 rfl rfl (ix_in hi6) d_Md_weight_33 ?_
        refine lv_i2l (v := ((md.2.1 4) p1.toNatClampNeg).toInt64) hx hb d_Md_weight_34 rfl ?_
        refine lv_lmul hx hb d_Md_weight_35 ?_
        refine lv_aload_n hx hb d_Md_weight_36 rfl (lv_at hl 0 rfl) ?_
        refine lv_iload_n hx hb d_Md_weight_37 rfl (lv_at hl 1 rfl) ?_
        obtain ⟨q7, hq7, hf⟩ := op_b hf
        refine ro_go rfl (va_runV (As := [.int p1]) (rest := [.long ((((md.2.1 4) p1.toNatClampNeg).toInt64) * (((md.2.1 4) p1.toNatClampNeg).toInt64))]) ⟨hx, hb, hml, hown, hts⟩ (m_Md_lengthOf l dC dI tC h_md ad_md md p1 q7 _ hP hq7) (cwV 1 hts (gd_V kM_9_172 kI_Md_lengthOf kV_Md_lengthOf kZ_9 kC_Md_lengthOf) rfl rfl rfl (by decide +kernel) ⟨(Nat.le_of_ble_eq_true rfl), (Nat.le_of_ble_eq_true rfl)⟩) ⟨ro_blind, va_recv hK hP (ci := 9) (q0 := 0) rfl rfl, ro_pre hK⟩ rfl rfl hl.1 rfl (lv_room (Nat.le_of_ble_eq_true rfl)) d_Md_weight_38 ⟨(Nat.le_of_ble_eq_true rfl), (Nat.le_of_ble_eq_true rfl)⟩) ?_
        refine W.eq (g2 := F0 m 41 ls [.long q7, .long ((((md.2.1 4) p1.toNatClampNeg).toInt64) * (((md.2.1 4) p1.toNatClampNeg).toInt64))]) rfl ?_
        refine lv_lmul hx hb d_Md_weight_41 ?_
        refine lv_aload_n hx hb d_Md_weight_42 rfl (lv_at hl 0 rfl) ?_
        refine va_get (D := (dC, dI)) (ci := 9) (v := .ref (ad_md 6)) (C := RX9) (T := TX9) (N := 46) hx hb hts in_X9 hown hK hP 0 rfl rfl 9 (by decide) (hts _ kF_9_29) (fun _ h9 => h9) rfl d_Md_weight_43 ?_
        refine lv_iload_n hx hb d_Md_weight_46 rfl (lv_at hl 1 rfl) ?_
        obtain ⟨hi8, hf⟩ := op_if hf
        refine va_iald (f := md.2.1 5) hx hb hK hP 7 0 rfl rfl (ix_in hi8) d_Md_weight_47 ?_
        refine lv_i2l (v := ((md.2.1 5) p1.toNatClampNeg).toInt64) hx hb d_Md_weight_48 rfl ?_
        refine lv_lmul hx hb d_Md_weight_49 ?_
        obtain ⟨v9, hv9, hf⟩ := op_b hf
        refine rw_l (y := v9) (Option.some.inj hv9) ?_
        refine lv_lstore_n (lv' := [(3, .long v9), (0, .ref h_md), (1, .int p1), (2, .int p2)]) hx hb d_Md_weight_50 rfl hl (by decide) rfl (fun ls hl => ?_)
        refine lv_lload_n hx hb d_Md_weight_51 rfl (lv_at hl 0 rfl) ?_
        refine lv_lstore (lv' := [(5, .long v9), (3, .long v9), (0, .ref h_md), (1, .int p1), (2, .int p2)]) hx hb d_Md_weight_52 hl (by decide) rfl (fun ls hl => ?_)
        refine lv_ldc2 (v := 162) hx hb hown (hts _ kK_9_249) d_Md_weight_54 ?_
        refine lv_lstore (lv' := [(7, .long 162), (5, .long v9), (3, .long v9), (0, .ref h_md), (1, .int p1), (2, .int p2)]) hx hb d_Md_weight_57 hl (by decide) rfl (fun ls hl => ?_)
        have lp_59 : ∀ (n : Nat) (x1 : Int32) (x2 : Int32) (x3 : Int64) (x5 : Int64) (x7 : Int64) (Rl : Int64 × Int64), l_Md_weight_59 n x1 x2 x3 x5 x7 md = some Rl → ∀ ls : Array Slot, lv_has ls 11 [(7, .long x7), (5, .long x5), (3, .long x3), (0, .ref h_md), (1, .int x1), (2, .int x2)] → (∀ ls : Array Slot, lv_has ls 11 [(7, .long Rl.2), (5, .long Rl.1), (3, .long x3), (0, .ref h_md), (1, .int x1), (2, .int x2)] → W p l e rm_Md_weight s m args below meth c s.heap [] 0 0 Q (F0 m 84 ls [])) → W p l e rm_Md_weight s m args below meth c s.heap [] 0 0 Q (F0 m 59 ls []) := by
          intro n
          induction n with
          | zero => intro x1 x2 x3 x5 x7 Rl hf; cases hf
          | succ n ih_59 =>
            intro x1 x2 x3 x5 x7 Rl hf ls hl Kk
            rw [l_Md_weight_59] at hf
            refine lv_lload hx hb d_Md_weight_59 (lv_at hl 0 rfl) ?_
            refine lv_lconst (v := 0) hx hb d_Md_weight_61 (by decide) ?_
            refine W.lcmp hx hb d_Md_weight_62 ?_
            refine lv_if_le (tgt := 84) hx hb d_Md_weight_63 (by decide) (fun c11 => ?_) (fun c11 => ?_)
            · have c11 := (lg_cmp_le _ _).mp c11
              have hf := op_t hf c11
              obtain rfl := Option.some.inj hf
              exact Kk _ (lv_sub hl [0, 1, 2, 3, 4, 5] rfl)
            · have c11 := fun h9 => c11 ((lg_cmp_le _ _).mpr h9)
              have hf := op_e hf c11
              refine lv_lload hx hb d_Md_weight_66 (lv_at hl 1 rfl) ?_
              refine lv_lload hx hb d_Md_weight_68 (lv_at hl 0 rfl) ?_
              obtain ⟨hz12, hf⟩ := op_nif hf
              refine lv_lrem hx hb d_Md_weight_70 hz12 ?_
              obtain ⟨v13, hv13, hf⟩ := op_b hf
              refine rw_l (y := v13) (Option.some.inj hv13) ?_
              refine lv_lstore (lv' := [(9, .long v13), (7, .long x7), (5, .long x5), (3, .long x3), (0, .ref h_md), (1, .int x1), (2, .int x2)]) hx hb d_Md_weight_71 hl (by decide) rfl (fun ls hl => ?_)
              refine lv_lload hx hb d_Md_weight_73 (lv_at hl 1 rfl) ?_
              refine lv_lstore (lv' := [(5, .long x7), (9, .long v13), (7, .long x7), (3, .long x3), (0, .ref h_md), (1, .int x1), (2, .int x2)]) hx hb d_Md_weight_75 hl (by decide) rfl (fun ls hl => ?_)
              refine lv_lload hx hb d_Md_weight_77 (lv_at hl 1 rfl) ?_
              refine lv_lstore (lv' := [(7, .long v13), (5, .long x7), (9, .long v13), (3, .long x3), (0, .ref h_md), (1, .int x1), (2, .int x2)]) hx hb d_Md_weight_79 hl (by decide) rfl (fun ls hl => ?_)
              refine lv_goto (tgt := 59) hx hb d_Md_weight_81 (by decide) ?_
              exact ih_59 x1 x2 x3 x7 v13 Rl hf _ (lv_sub hl [0, 1, 3, 4, 5, 6] rfl) Kk
        obtain ⟨q10, hq10, hf⟩ := op_b hf
        refine lp_59 fu p1 p2 v9 v9 162 q10 hq10 _ (lv_sub hl [0, 1, 2, 3, 4, 5] rfl) ?_
        intro ls hl
        refine lv_iload_n hx hb d_Md_weight_84 rfl (lv_at hl 5 rfl) ?_
        refine lv_if_ne (tgt := 95) hx hb d_Md_weight_85 (by decide) (fun c14 => ?_) (fun c14 => ?_)
        · have hf := op_e hf c14
          refine lv_ldc2 (v := 162) hx hb hown (hts _ kK_9_249) d_Md_weight_95 ?_
          refine lv_lload hx hb d_Md_weight_98 (lv_at hl 1 rfl) ?_
          obtain ⟨hz16, hf⟩ := op_nif hf
          refine lv_ldiv hx hb d_Md_weight_100 hz16 ?_
          obtain rfl := Option.some.inj hf
          subst hQ
          exact W.lret (v := 162 / q10.1) hx hb hr (fun t ht hW => ⟨rfl, ht⟩) (fun q h => by cases h) d_Md_weight_101
        · have hf := op_t hf c14
          refine lv_lload_n hx hb d_Md_weight_88 rfl (lv_at hl 2 rfl) ?_
          refine lv_lload hx hb d_Md_weight_89 (lv_at hl 1 rfl) ?_
          obtain ⟨hz15, hf⟩ := op_nif hf
          refine lv_ldiv hx hb d_Md_weight_91 hz15 ?_
          refine lv_goto (tgt := 101) hx hb d_Md_weight_92 (by decide) ?_
          obtain rfl := Option.some.inj hf
          subst hQ
          exact W.lret (v := v9 / q10.1) hx hb hr (fun t ht hW => ⟨rfl, ht⟩) (fun q h => by cases h) d_Md_weight_101
      · have hf := op_e hf c4
        refine lv_ldc2 (v := (-1)) hx hb hown (hts _ kK_9_170) d_Md_weight_17 ?_
        obtain rfl := Option.some.inj hf
        subst hQ
        exact W.lret (v := (-1)) hx hb hr (fun t ht hW => ⟨rfl, ht⟩) (fun q h => by cases h) d_Md_weight_20
def f_Md_sign (md : MS) (p1 : Int32) : Option (Unit × MS) := if ix (md.1 9) 40 then (some (sA md 20 (upd (md.2.1 20) (md.1 9).toNatClampNeg p1))).bind fun md2 => (some (sI md2 9 ((md2.1 9) + 1))).bind fun md3 => some ((), md3) else none
def rm_Md_sign : Room := { frames := 0, cells := 0, slots := 0, locals := 0 }
set_option maxHeartbeats 4000000 in
set_option maxRecDepth 100000 in
theorem m_Md_sign (l : Launch) (dC : Nat → ClassId) (dI : Nat → Nat → Nat) (tC : Nat → ClassId) (h_md : Nat) (ad_md : Nat → Nat) (md : MS) (p1 : Int32) (R : Unit × MS) (hf : f_Md_sign md p1 = some R) (sz : Nat) : Met l y_Md_sign w_Md_sign rm_Md_sign (wrP (dC, dI) tC (w_Md_ h_md ad_md tC md) sz [.ref h_md, .int p1]) (wrQ (dC, dI) (w_Md_ h_md ad_md tC md) sz (fun r w => r = none ∧ w = (w_Md_ h_md ad_md tC R.2))) 0 0 (va_A (w_Md_ h_md ad_md tC md) sz) := by
  refine Met.ofW (cc := c_Md_sign) (maxL := 2) (ret := none) (by decide) rfl ?_
  intro p e s m args below meth c s₁ B hml hv
  obtain ⟨hav, hsz, hP, hK, hD0⟩ := hv
  have hx := B.exec
  have hb := B.bytes
  have hr := B.returns
  have hts : ∀ w ∈ gw, w.before args s = true := fun w h => atoms_spec (ws := w_Md_sign) B.pre w (List.mem_cons_of_mem _ h)
  have hown : s.vm.findClass RX9 = some m.cls := findClass_of_methodNamed B.named
  have hlocks := B.notSynchronized
  subst hsz
  have hD := hD0.self (sz := s.heap.size)
  obtain ⟨A, hAe⟩ : ∃ z, z = va_A (w_Md_ h_md ad_md tC md) s.heap.size := ⟨_, rfl⟩
  rw [← hAe] at hD
  have hA : ∀ q : Nat, s.heap.size ≤ q → A q := fun q h => by rw [hAe]; exact Or.inr h
  have hS : va_S A s.heap s.heap [] := va_S.rf
  refine q_w (R := rm_Md_sign) (fun Q hQ => ?_)
  refine en_w (av := [.ref h_md, .int p1]) hav (Nat.le_of_ble_eq_true rfl) (fun ls hl => ?_)
  have hl : lv_has ls 2 [(0, .ref h_md), (1, .int p1)] := hl
  unfold f_Md_sign at hf
  refine lv_aload_n hx hb d_Md_sign_0 rfl (lv_at hl 0 rfl) ?_
  refine va_get (D := (dC, dI)) (ci := 9) (v := .ref (ad_md 35)) (C := RX9) (T := TX9) (N := 46) hx hb hts in_X9 hown hK hP 0 rfl rfl 44 (by decide) (hts _ kF_9_117) (fun _ h9 => h9) rfl d_Md_sign_1 ?_
  refine lv_aload_n hx hb d_Md_sign_4 rfl (lv_at hl 0 rfl) ?_
  refine va_get (D := (dC, dI)) (ci := 9) (v := .int (md.1 9)) (C := RX9) (T := TX9) (N := 46) hx hb hts in_X9 hown hK hP 0 rfl rfl 45 (by decide) (hts _ kF_9_251) (fun _ h9 => h9) rfl d_Md_sign_5 ?_
  refine lv_iload_n hx hb d_Md_sign_8 rfl (lv_at hl 1 rfl) ?_
  obtain ⟨hi1, hf⟩ := op_if hf
  refine va_iast (f := md.2.1 20) hx hb hK hP hD hS 36 0 rfl rfl (ix_in hi1) d_Md_sign_9 (fun H locs hP hD hS => ?_)
  rw [wu_Md_a20] at hP hD
  obtain ⟨md2, hmd2, hf⟩ := op_b hf
  have hP : va_P (dC, dI) vwCl (w_Md_ h_md ad_md tC md2) H := by rw [← Option.some.inj hmd2]; exact hP
  have hD : va_D A (w_Md_ h_md ad_md tC md2) := by rw [← Option.some.inj hmd2]; exact hD
  refine lv_aload_n hx hb d_Md_sign_10 rfl (lv_at hl 0 rfl) ?_
  refine lv_dup hx hb d_Md_sign_11 rfl ?_
  refine va_get (D := (dC, dI)) (ci := 9) (v := .int (md2.1 9)) (C := RX9) (T := TX9) (N := 46) hx hb hts in_X9 hown hK hP 0 rfl rfl 45 (by decide) (hts _ kF_9_251) (fun _ h9 => h9) rfl d_Md_sign_12 ?_
  refine lv_iconst (v := 1) hx hb d_Md_sign_15 (by decide) ?_
  refine lv_iadd hx hb d_Md_sign_16 ?_
  refine va_put (D := (dC, dI)) (ci := 9) (v := .int ((md2.1 9) + 1)) (ty := .int) (C := RX9) (T := TX9) (N := 46) hx hb hts in_X9 tyX9 tyX9_ok nmX9 hown hK hP hD hS 0 (fs := [.ref (ad_md 0), .int (md2.1 0), .int (md2.1 1), .ref (ad_md 1), .ref (ad_md 2), .ref (ad_md 3), .int (md2.1 2), .ref (ad_md 4), .ref (ad_md 5), .ref (ad_md 6), .ref (ad_md 7), .ref (ad_md 8), .ref (ad_md 9), .ref (ad_md 10), .ref (ad_md 11), .ref (ad_md 12), .ref (ad_md 13), .ref (ad_md 14), .ref (ad_md 15), .int (md2.1 3), .ref (ad_md 16), .ref (ad_md 17), .ref (ad_md 18), .ref (ad_md 19), .ref (ad_md 20), .ref (ad_md 21), .ref (ad_md 22), .int (md2.1 4), .int (md2.1 5), .ref (ad_md 23), .ref (ad_md 24), .ref (ad_md 25), .ref (ad_md 26), .ref (ad_md 27), .int (md2.1 6), .int (md2.1 7), .int (md2.1 8), .ref (ad_md 28), .ref (ad_md 29), .ref (ad_md 30), .ref (ad_md 31), .ref (ad_md 32), .ref (ad_md 33), .ref (ad_md 34), .ref (ad_md 35), .int (md2.1 9)]) rfl rfl 45 (by decide) (hts _ kF_9_251) (fun _ h9 => h9) rfl (by decide +kernel) (rfl) (rfl) (Nat.le_of_ble_eq_true rfl) d_Md_sign_17 (fun H locs hP hD hS => ?_)
  rw [wu_Md_s9] at hP hD
  obtain ⟨md3, hmd3, hf⟩ := op_b hf
  have hP : va_P (dC, dI) vwCl (w_Md_ h_md ad_md tC md3) H := by rw [← Option.some.inj hmd3]; exact hP
  have hD : va_D A (w_Md_ h_md ad_md tC md3) := by rw [← Option.some.inj hmd3]; exact hD
  obtain rfl := Option.some.inj hf
  subst hQ
  subst hAe
  exact W.vret hx hb hr (fun t ht hW => ⟨⟨_, _, rfl, ⟨rfl, rfl⟩, by rw [ht]; exact hP, hD⟩, hS.F ht⟩) hS.2.2 d_Md_sign_20
def l_Md_tag_85 : Nat → Int32 → Int32 → Int32 → MS → Option (Int32 × MS)
  | 0, _, _, _, _ => none
  | n + 1, x1, x2, x3, md => if ix x1 12 then if ix ((md.2.1 3) x1.toNatClampNeg) 10 then (if ((md.2.1 1) ((md.2.1 3) x1.toNatClampNeg).toNatClampNeg) ≤ x3 then some (x3, md) else ((if x3 = 0 then some (0) else if ix x1 12 then if ix (((6 * ((md.2.1 3) x1.toNatClampNeg)) + x3) - 1) 60 then some ((md.2.1 2) (((6 * ((md.2.1 3) x1.toNatClampNeg)) + x3) - 1).toNatClampNeg) else none else none) : Option (Int32)).bind fun q20 => ((if q20 ≤ 0 then some (md) else (if q20 = 1 then (f_Md_sign md 76).bind fun q26 => some (q26.2) else (if q20 = 2 then (f_Md_sign md 82).bind fun q28 => some (q28.2) else (f_Md_sign md 85).bind fun q29 => some (q29.2)))) : Option (MS)).bind fun q24 => (f_Md_sign q24 (65 + x3)).bind fun q30 => l_Md_tag_85 n x1 x2 (x3 + 1) q30.2) else none else none
def f_Md_tag (md : MS) (p1 : Int32) (p2 : Int32) : Option (Int32 × MS) := (f_Md_isLine md p1).bind fun q1 => (if q1 = 0 then some ((-1), md) else (some (sI md 9 0)).bind fun md3 => if ix p1 12 then (f_Md_sign md3 (48 + ((md3.2.1 5) p1.toNatClampNeg))).bind fun q5 => (f_Md_sign q5.2 120).bind fun q6 => if ix p1 12 then ((if ((q6.2.2.1 4) p1.toNatClampNeg) ≤ 9 then some (q6.2) else if ix p1 12 then (f_Md_sign q6.2 (48 + (((q6.2.2.1 4) p1.toNatClampNeg) / 10))).bind fun q11 => some (q11.2) else none) : Option (MS)).bind fun q9 => if ix p1 12 then (f_Md_sign q9 (48 + (((q9.2.1 4) p1.toNatClampNeg) - ((q9.2.1 4) p1.toNatClampNeg) / 10 * 10))).bind fun q13 => (f_Md_sign q13.2 58).bind fun q14 => (l_Md_tag_85 fu p1 p2 0 q14.2).bind fun q15 => (if p2 < 0 then some ((-1), q15.2) else (if p2 < (q15.2.1 9) then if ix p2 40 then some ((q15.2.2.1 20) p2.toNatClampNeg, q15.2) else none else some ((-1), q15.2))) else none else none else none)
def rm_Md_tag : Room := { frames := 1, cells := 0, slots := 0, locals := 21 }
set_option maxHeartbeats 4000000 in
set_option maxRecDepth 100000 in
theorem m_Md_tag (l : Launch) (dC : Nat → ClassId) (dI : Nat → Nat → Nat) (tC : Nat → ClassId) (h_md : Nat) (ad_md : Nat → Nat) (md : MS) (p1 : Int32) (p2 : Int32) (R : Int32 × MS) (hf : f_Md_tag md p1 p2 = some R) (sz : Nat) : Met l y_Md_tag w_Md_tag rm_Md_tag (wrP (dC, dI) tC (w_Md_ h_md ad_md tC md) sz [.ref h_md, .int p1, .int p2]) (wrQ (dC, dI) (w_Md_ h_md ad_md tC md) sz (fun r w => r = (some (.int R.1)) ∧ w = (w_Md_ h_md ad_md tC R.2))) 0 0 (va_A (w_Md_ h_md ad_md tC md) sz) := by
  refine Met.ofW (cc := c_Md_tag) (maxL := 5) (ret := (some (.int))) (by decide) rfl ?_
  intro p e s m args below meth c s₁ B hml hv
  obtain ⟨hav, hsz, hP, hK, hD0⟩ := hv
  have hx := B.exec
  have hb := B.bytes
  have hr := B.returns
  have hts : ∀ w ∈ gw, w.before args s = true := fun w h => atoms_spec (ws := w_Md_tag) B.pre w (List.mem_cons_of_mem _ h)
  have hown : s.vm.findClass RX9 = some m.cls := findClass_of_methodNamed B.named
  have hlocks := B.notSynchronized
  subst hsz
  have hD := hD0.self (sz := s.heap.size)
  obtain ⟨A, hAe⟩ : ∃ z, z = va_A (w_Md_ h_md ad_md tC md) s.heap.size := ⟨_, rfl⟩
  rw [← hAe] at hD
  have hA : ∀ q : Nat, s.heap.size ≤ q → A q := fun q h => by rw [hAe]; exact Or.inr h
  have hS : va_S A s.heap s.heap [] := va_S.rf
  refine q_w (R := rm_Md_tag) (fun Q hQ => ?_)
  refine en_w (av := [.ref h_md, .int p1, .int p2]) hav (Nat.le_of_ble_eq_true rfl) (fun ls hl => ?_)
  have hl : lv_has ls 5 [(0, .ref h_md), (1, .int p1), (2, .int p2)] := hl
  unfold f_Md_tag at hf
  refine lv_aload_n hx hb d_Md_tag_0 rfl (lv_at hl 0 rfl) ?_
  refine lv_iload_n hx hb d_Md_tag_1 rfl (lv_at hl 1 rfl) ?_
  obtain ⟨q1, hq1, hf⟩ := op_b hf
  refine ro_go rfl (va_runV (As := [.int p1]) (rest := []) ⟨hx, hb, hml, hown, hts⟩ (m_Md_isLine l dC dI tC h_md ad_md md p1 q1 _ hP hq1) (cwV 1 hts (gd_V kM_9_154 kI_Md_isLine kV_Md_isLine kZ_9 kC_Md_isLine) rfl rfl rfl (by decide +kernel) ⟨(Nat.le_of_ble_eq_true rfl), (Nat.le_of_ble_eq_true rfl)⟩) ⟨ro_blind, va_recv hK hP (ci := 9) (q0 := 0) rfl rfl, ro_pre hK⟩ rfl rfl hl.1 rfl (lv_room (Nat.le_of_ble_eq_true rfl)) d_Md_tag_2 ⟨(Nat.le_of_ble_eq_true rfl), (Nat.le_of_ble_eq_true rfl)⟩) ?_
  refine W.eq (g2 := F0 m 5 ls [.int q1]) rfl ?_
  refine lv_if_ne (tgt := 10) hx hb d_Md_tag_5 (by decide) (fun c2 => ?_) (fun c2 => ?_)
  · have hf := op_e hf c2
    refine lv_aload_n hx hb d_Md_tag_10 rfl (lv_at hl 0 rfl) ?_
    refine lv_iconst (v := 0) hx hb d_Md_tag_11 (by decide) ?_
    refine va_put (D := (dC, dI)) (ci := 9) (v := .int 0) (ty := .int) (C := RX9) (T := TX9) (N := 46) hx hb hts in_X9 tyX9 tyX9_ok nmX9 hown hK hP hD hS 0 (fs := [.ref (ad_md 0), .int (md.1 0), .int (md.1 1), .ref (ad_md 1), .ref (ad_md 2), .ref (ad_md 3), .int (md.1 2), .ref (ad_md 4), .ref (ad_md 5), .ref (ad_md 6), .ref (ad_md 7), .ref (ad_md 8), .ref (ad_md 9), .ref (ad_md 10), .ref (ad_md 11), .ref (ad_md 12), .ref (ad_md 13), .ref (ad_md 14), .ref (ad_md 15), .int (md.1 3), .ref (ad_md 16), .ref (ad_md 17), .ref (ad_md 18), .ref (ad_md 19), .ref (ad_md 20), .ref (ad_md 21), .ref (ad_md 22), .int (md.1 4), .int (md.1 5), .ref (ad_md 23), .ref (ad_md 24), .ref (ad_md 25), .ref (ad_md 26), .ref (ad_md 27), .int (md.1 6), .int (md.1 7), .int (md.1 8), .ref (ad_md 28), .ref (ad_md 29), .ref (ad_md 30), .ref (ad_md 31), .ref (ad_md 32), .ref (ad_md 33), .ref (ad_md 34), .ref (ad_md 35), .int (md.1 9)]) rfl rfl 45 (by decide) (hts _ kF_9_251) (fun _ h9 => h9) rfl (by decide +kernel) (rfl) (rfl) (Nat.le_of_ble_eq_true rfl) d_Md_tag_12 (fun H locs hP hD hS => ?_)
    rw [wu_Md_s9] at hP hD
    obtain ⟨md3, hmd3, hf⟩ := op_b hf
    have hP : va_P (dC, dI) vwCl (w_Md_ h_md ad_md tC md3) H := by rw [← Option.some.inj hmd3]; exact hP
    have hD : va_D A (w_Md_ h_md ad_md tC md3) := by rw [← Option.some.inj hmd3]; exact hD
    refine lv_aload_n hx hb d_Md_tag_15 rfl (lv_at hl 0 rfl) ?_
    refine lv_bipush (v := 48) hx hb d_Md_tag_16 (by decide) ?_
    refine lv_aload_n hx hb d_Md_tag_18 rfl (lv_at hl 0 rfl) ?_
    refine va_get (D := (dC, dI)) (ci := 9) (v := .ref (ad_md 6)) (C := RX9) (T := TX9) (N := 46) hx hb hts in_X9 hown hK hP 0 rfl rfl 9 (by decide) (hts _ kF_9_29) (fun _ h9 => h9) rfl d_Md_tag_19 ?_
    refine lv_iload_n hx hb d_Md_tag_22 rfl (lv_at hl 1 rfl) ?_
    obtain ⟨hi4, hf⟩ := op_if hf
    refine va_iald (f := md3.2.1 5) hx hb hK hP 7 0 rfl rfl (ix_in hi4) d_Md_tag_23 ?_
    refine lv_iadd hx hb d_Md_tag_24 ?_
    obtain ⟨q5, hq5, hf⟩ := op_b hf
    have hPc := hP
    have hDc := hD
    have hFc := va_free (wc := (w_Md_ h_md ad_md tC md3)) hD hS hA [0, 1, 2, 3, 4, 5, 6, 7, 8, 9, 10, 11, 12, 13, 14, 15, 16, 17, 18, 19, 20, 21, 22, 23, 24, 25, 26, 27, 28, 29, 30, 31, 32, 33, 34, 35, 36] rfl
    refine wr_go (va_runV (As := [.int (48 + ((md3.2.1 5) p1.toNatClampNeg))]) (rest := []) ⟨hx, hb, hml, hown, hts⟩ (m_Md_sign l dC dI tC h_md ad_md md3 (48 + ((md3.2.1 5) p1.toNatClampNeg)) q5 hq5 _) (cwV 1 hts (gd_V kM_9_254 kI_Md_sign kV_Md_sign kZ_9 kC_Md_sign) rfl rfl rfl (by decide +kernel) ⟨(Nat.le_of_ble_eq_true rfl), (Nat.le_of_ble_eq_true rfl)⟩) ⟨wr_blind, va_recv hK hP (ci := 9) (q0 := 0) rfl rfl, wr_pre hK hPc hDc⟩ rfl rfl hl.1 rfl (lv_room (Nat.le_of_ble_eq_true rfl)) d_Md_tag_25 ⟨(Nat.le_of_ble_eq_true rfl), (Nat.le_of_ble_eq_true rfl)⟩) hS hFc (fun r w1 H1 locs hw hP1 hD1 hk1 hS => ?_)
    obtain ⟨rfl, rfl⟩ := hw
    have hP := hP1
    have hD := hD1.weaken (fun _ q _ h => hFc q.1 h)
    clear hP1 hD1 hk1 hPc hDc hFc
    have hP : va_P (dC, dI) vwCl (w_Md_ h_md ad_md tC q5.2) _ := hP
    have hD : va_D A (w_Md_ h_md ad_md tC q5.2) := hD
    refine W.eq (g2 := F0 m 28 ls []) rfl ?_
    refine lv_aload_n hx hb d_Md_tag_28 rfl (lv_at hl 0 rfl) ?_
    refine lv_bipush (v := 120) hx hb d_Md_tag_29 (by decide) ?_
    obtain ⟨q6, hq6, hf⟩ := op_b hf
    have hPc := hP
    have hDc := hD
    have hFc := va_free (wc := (w_Md_ h_md ad_md tC q5.2)) hD hS hA [0, 1, 2, 3, 4, 5, 6, 7, 8, 9, 10, 11, 12, 13, 14, 15, 16, 17, 18, 19, 20, 21, 22, 23, 24, 25, 26, 27, 28, 29, 30, 31, 32, 33, 34, 35, 36] rfl
    refine wr_go (va_runV (As := [.int 120]) (rest := []) ⟨hx, hb, hml, hown, hts⟩ (m_Md_sign l dC dI tC h_md ad_md q5.2 120 q6 hq6 _) (cwV 1 hts (gd_V kM_9_254 kI_Md_sign kV_Md_sign kZ_9 kC_Md_sign) rfl rfl rfl (by decide +kernel) ⟨(Nat.le_of_ble_eq_true rfl), (Nat.le_of_ble_eq_true rfl)⟩) ⟨wr_blind, va_recv hK hP (ci := 9) (q0 := 0) rfl rfl, wr_pre hK hPc hDc⟩ rfl rfl hl.1 rfl (lv_room (Nat.le_of_ble_eq_true rfl)) d_Md_tag_31 ⟨(Nat.le_of_ble_eq_true rfl), (Nat.le_of_ble_eq_true rfl)⟩) hS hFc (fun r w1 H1 locs hw hP1 hD1 hk1 hS => ?_)
    obtain ⟨rfl, rfl⟩ := hw
    have hP := hP1
    have hD := hD1.weaken (fun _ q _ h => hFc q.1 h)
    clear hP1 hD1 hk1 hPc hDc hFc
    have hP : va_P (dC, dI) vwCl (w_Md_ h_md ad_md tC q6.2) _ := hP
    have hD : va_D A (w_Md_ h_md ad_md tC q6.2) := hD
    refine W.eq (g2 := F0 m 34 ls []) rfl ?_
    refine lv_aload_n hx hb d_Md_tag_34 rfl (lv_at hl 0 rfl) ?_
    refine va_get (D := (dC, dI)) (ci := 9) (v := .ref (ad_md 5)) (C := RX9) (T := TX9) (N := 46) hx hb hts in_X9 hown hK hP 0 rfl rfl 8 (by decide) (hts _ kF_9_26) (fun _ h9 => h9) rfl d_Md_tag_35 ?_
    refine lv_iload_n hx hb d_Md_tag_38 rfl (lv_at hl 1 rfl) ?_
    obtain ⟨hi7, hf⟩ := op_if hf
    refine va_iald (f := q6.2.2.1 4) hx hb hK hP 6 0 rfl rfl (ix_in hi7) d_Md_tag_39 ?_
    refine lv_bipush (v := 9) hx hb d_Md_tag_40 (by decide) ?_
    obtain ⟨q9, hq9, hf⟩ := op_b hf
    have J_42 : ∀ (H : Heap) (locs : List Loc), va_P (dC, dI) vwCl (w_Md_ h_md ad_md tC q9) H → va_D A (w_Md_ h_md ad_md tC q9) → va_S A s.heap H locs → ∀ ls : Array Slot, lv_has ls 5 [(0, .ref h_md), (1, .int p1), (2, .int p2)] → W p l e rm_Md_tag s m args below meth c H locs 0 0 Q (F0 m 61 ls []) := by
      intro H locs hP hD hS ls hl
      refine lv_aload_n hx hb d_Md_tag_61 rfl (lv_at hl 0 rfl) ?_
      refine lv_bipush (v := 48) hx hb d_Md_tag_62 (by decide) ?_
      refine lv_aload_n hx hb d_Md_tag_64 rfl (lv_at hl 0 rfl) ?_
      refine va_get (D := (dC, dI)) (ci := 9) (v := .ref (ad_md 5)) (C := RX9) (T := TX9) (N := 46) hx hb hts in_X9 hown hK hP 0 rfl rfl 8 (by decide) (hts _ kF_9_26) (fun _ h9 => h9) rfl d_Md_tag_65 ?_
      refine lv_iload_n hx hb d_Md_tag_68 rfl (lv_at hl 1 rfl) ?_
      obtain ⟨hi12, hf⟩ := op_if hf
      refine va_iald (f := q9.2.1 4) hx hb hK hP 6 0 rfl rfl (ix_in hi12) d_Md_tag_69 ?_
      refine lv_bipush (v := 10) hx hb d_Md_tag_70 (by decide) ?_
      refine lv_irem hx hb d_Md_tag_72 (by decide) ?_
      refine lv_iadd hx hb d_Md_tag_73 ?_
      obtain ⟨q13, hq13, hf⟩ := op_b hf
      have hPc := hP
      have hDc := hD
      have hFc := va_free (wc := (w_Md_ h_md ad_md tC q9)) hD hS hA [0, 1, 2, 3, 4, 5, 6, 7, 8, 9, 10, 11, 12, 13, 14, 15, 16, 17, 18, 19, 20, 21, 22, 23, 24, 25, 26, 27, 28, 29, 30, 31, 32, 33, 34, 35, 36] rfl
      refine wr_go (va_runV (As := [.int (48 + (((q9.2.1 4) p1.toNatClampNeg) - ((q9.2.1 4) p1.toNatClampNeg) / 10 * 10))]) (rest := []) ⟨hx, hb, hml, hown, hts⟩ (m_Md_sign l dC dI tC h_md ad_md q9 (48 + (((q9.2.1 4) p1.toNatClampNeg) - ((q9.2.1 4) p1.toNatClampNeg) / 10 * 10)) q13 hq13 _) (cwV 1 hts (gd_V kM_9_254 kI_Md_sign kV_Md_sign kZ_9 kC_Md_sign) rfl rfl rfl (by decide +kernel) ⟨(Nat.le_of_ble_eq_true rfl), (Nat.le_of_ble_eq_true rfl)⟩) ⟨wr_blind, va_recv hK hP (ci := 9) (q0 := 0) rfl rfl, wr_pre hK hPc hDc⟩ rfl rfl hl.1 rfl (lv_room (Nat.le_of_ble_eq_true rfl)) d_Md_tag_74 ⟨(Nat.le_of_ble_eq_true rfl), (Nat.le_of_ble_eq_true rfl)⟩) hS hFc (fun r w1 H1 locs hw hP1 hD1 hk1 hS => ?_)
      obtain ⟨rfl, rfl⟩ := hw
      have hP := hP1
      have hD := hD1.weaken (fun _ q _ h => hFc q.1 h)
      clear hP1 hD1 hk1 hPc hDc hFc
      have hP : va_P (dC, dI) vwCl (w_Md_ h_md ad_md tC q13.2) _ := hP
      have hD : va_D A (w_Md_ h_md ad_md tC q13.2) := hD
      refine W.eq (g2 := F0 m 77 ls []) rfl ?_
      refine lv_aload_n hx hb d_Md_tag_77 rfl (lv_at hl 0 rfl) ?_
      refine lv_bipush (v := 58) hx hb d_Md_tag_78 (by decide) ?_
      obtain ⟨q14, hq14, hf⟩ := op_b hf
      have hPc := hP
      have hDc := hD
      have hFc := va_free (wc := (w_Md_ h_md ad_md tC q13.2)) hD hS hA [0, 1, 2, 3, 4, 5, 6, 7, 8, 9, 10, 11, 12, 13, 14, 15, 16, 17, 18, 19, 20, 21, 22, 23, 24, 25, 26, 27, 28, 29, 30, 31, 32, 33, 34, 35, 36] rfl
      refine wr_go (va_runV (As := [.int 58]) (rest := []) ⟨hx, hb, hml, hown, hts⟩ (m_Md_sign l dC dI tC h_md ad_md q13.2 58 q14 hq14 _) (cwV 1 hts (gd_V kM_9_254 kI_Md_sign kV_Md_sign kZ_9 kC_Md_sign) rfl rfl rfl (by decide +kernel) ⟨(Nat.le_of_ble_eq_true rfl), (Nat.le_of_ble_eq_true rfl)⟩) ⟨wr_blind, va_recv hK hP (ci := 9) (q0 := 0) rfl rfl, wr_pre hK hPc hDc⟩ rfl rfl hl.1 rfl (lv_room (Nat.le_of_ble_eq_true rfl)) d_Md_tag_80 ⟨(Nat.le_of_ble_eq_true rfl), (Nat.le_of_ble_eq_true rfl)⟩) hS hFc (fun r w1 H1 locs hw hP1 hD1 hk1 hS => ?_)
      obtain ⟨rfl, rfl⟩ := hw
      have hP := hP1
      have hD := hD1.weaken (fun _ q _ h => hFc q.1 h)
      clear hP1 hD1 hk1 hPc hDc hFc
      have hP : va_P (dC, dI) vwCl (w_Md_ h_md ad_md tC q14.2) _ := hP
      have hD : va_D A (w_Md_ h_md ad_md tC q14.2) := hD
      refine W.eq (g2 := F0 m 83 ls []) rfl ?_
      refine lv_iconst (v := 0) hx hb d_Md_tag_83 (by decide) ?_
      refine lv_istore_n (lv' := [(3, .int 0), (0, .ref h_md), (1, .int p1), (2, .int p2)]) hx hb d_Md_tag_84 rfl hl (by decide) rfl (fun ls hl => ?_)
      have lp_85 : ∀ (n : Nat) (x1 : Int32) (x2 : Int32) (x3 : Int32) (md : MS) (Rl : Int32 × MS), l_Md_tag_85 n x1 x2 x3 md = some Rl → ∀ (H : Heap) (locs : List Loc), va_P (dC, dI) vwCl (w_Md_ h_md ad_md tC md) H → va_D A (w_Md_ h_md ad_md tC md) → va_S A s.heap H locs → ∀ ls : Array Slot, lv_has ls 5 [(3, .int x3), (0, .ref h_md), (1, .int x1), (2, .int x2)] → (∀ (H : Heap) (locs : List Loc), va_P (dC, dI) vwCl (w_Md_ h_md ad_md tC Rl.2) H → va_D A (w_Md_ h_md ad_md tC Rl.2) → va_S A s.heap H locs → ∀ ls : Array Slot, lv_has ls 5 [(3, .int Rl.1), (0, .ref h_md), (1, .int x1), (2, .int x2)] → W p l e rm_Md_tag s m args below meth c H locs 0 0 Q (F0 m 175 ls [])) → W p l e rm_Md_tag s m args below meth c H locs 0 0 Q (F0 m 85 ls []) := by
        intro n
        induction n with
        | zero => intro x1 x2 x3 md Rl hf; cases hf
        | succ n ih_85 =>
          intro x1 x2 x3 md Rl hf H locs hP hD hS ls hl Kk
          rw [l_Md_tag_85] at hf
          refine lv_iload_n hx hb d_Md_tag_85 rfl (lv_at hl 0 rfl) ?_
          refine lv_aload_n hx hb d_Md_tag_86 rfl (lv_at hl 1 rfl) ?_
          refine va_get (D := (dC, dI)) (ci := 9) (v := .ref (ad_md 1)) (C := RX9) (T := TX9) (N := 46) hx hb hts in_X9 hown hK hP 0 rfl rfl 3 (by decide) (hts _ kF_9_13) (fun _ h9 => h9) rfl d_Md_tag_87 ?_
          refine lv_aload_n hx hb d_Md_tag_90 rfl (lv_at hl 1 rfl) ?_
          refine va_get (D := (dC, dI)) (ci := 9) (v := .ref (ad_md 4)) (C := RX9) (T := TX9) (N := 46) hx hb hts in_X9 hown hK hP 0 rfl rfl 7 (by decide) (hts _ kF_9_23) (fun _ h9 => h9) rfl d_Md_tag_91 ?_
          refine lv_iload_n hx hb d_Md_tag_94 rfl (lv_at hl 2 rfl) ?_
          obtain ⟨hi16, hf⟩ := op_if hf
          refine va_iald (f := md.2.1 3) hx hb hK hP 5 0 rfl rfl (ix_in hi16) d_Md_tag_95 ?_
          obtain ⟨hi17, hf⟩ := op_if hf
          refine va_iald (f := md.2.1 1) hx hb hK hP 2 0 rfl rfl (ix_in hi17) d_Md_tag_96 ?_
          refine lv_icmp_ge (tgt := 175) hx hb d_Md_tag_97 (by decide) (fun c18 => ?_) (fun c18 => ?_)
          · have hf := op_t hf c18
            obtain rfl := Option.some.inj hf
            exact Kk _ _ hP hD hS _ (lv_sub hl [0, 1, 2, 3] rfl)
          · have hf := op_e hf c18
            refine lv_iload_n hx hb d_Md_tag_100 rfl (lv_at hl 0 rfl) ?_
            obtain ⟨q20, hq20, hf⟩ := op_b hf
            have J_101 : ∀ (H : Heap) (locs : List Loc), va_P (dC, dI) vwCl (w_Md_ h_md ad_md tC md) H → va_D A (w_Md_ h_md ad_md tC md) → va_S A s.heap H locs → ∀ ls : Array Slot, lv_has ls 5 [(3, .int x3), (0, .ref h_md), (1, .int x1), (2, .int x2)] → W p l e rm_Md_tag s m args below meth c H locs 0 0 Q (F0 m 126 ls [.int q20]) := by
              intro H locs hP hD hS ls hl
              refine lv_istore (lv' := [(4, .int q20), (3, .int x3), (0, .ref h_md), (1, .int x1), (2, .int x2)]) hx hb d_Md_tag_126 hl (by decide) rfl (fun ls hl => ?_)
              refine lv_iload hx hb d_Md_tag_128 (lv_at hl 0 rfl) ?_
              obtain ⟨q24, hq24, hf⟩ := op_b hf
              have J_130 : ∀ (H : Heap) (locs : List Loc), va_P (dC, dI) vwCl (w_Md_ h_md ad_md tC q24) H → va_D A (w_Md_ h_md ad_md tC q24) → va_S A s.heap H locs → ∀ ls : Array Slot, lv_has ls 5 [(4, .int q20), (3, .int x3), (0, .ref h_md), (1, .int x1), (2, .int x2)] → W p l e rm_Md_tag s m args below meth c H locs 0 0 Q (F0 m 161 ls []) := by
                intro H locs hP hD hS ls hl
                refine lv_aload_n hx hb d_Md_tag_161 rfl (lv_at hl 2 rfl) ?_
                refine lv_bipush (v := 65) hx hb d_Md_tag_162 (by decide) ?_
                refine lv_iload_n hx hb d_Md_tag_164 rfl (lv_at hl 1 rfl) ?_
                refine lv_iadd hx hb d_Md_tag_165 ?_
                obtain ⟨q30, hq30, hf⟩ := op_b hf
                have hPc := hP
                have hDc := hD
                have hFc := va_free (wc := (w_Md_ h_md ad_md tC q24)) hD hS hA [0, 1, 2, 3, 4, 5, 6, 7, 8, 9, 10, 11, 12, 13, 14, 15, 16, 17, 18, 19, 20, 21, 22, 23, 24, 25, 26, 27, 28, 29, 30, 31, 32, 33, 34, 35, 36] rfl
                refine wr_go (va_runV (As := [.int (65 + x3)]) (rest := []) ⟨hx, hb, hml, hown, hts⟩ (m_Md_sign l dC dI tC h_md ad_md q24 (65 + x3) q30 hq30 _) (cwV 1 hts (gd_V kM_9_254 kI_Md_sign kV_Md_sign kZ_9 kC_Md_sign) rfl rfl rfl (by decide +kernel) ⟨(Nat.le_of_ble_eq_true rfl), (Nat.le_of_ble_eq_true rfl)⟩) ⟨wr_blind, va_recv hK hP (ci := 9) (q0 := 0) rfl rfl, wr_pre hK hPc hDc⟩ rfl rfl hl.1 rfl (lv_room (Nat.le_of_ble_eq_true rfl)) d_Md_tag_166 ⟨(Nat.le_of_ble_eq_true rfl), (Nat.le_of_ble_eq_true rfl)⟩) hS hFc (fun r w1 H1 locs hw hP1 hD1 hk1 hS => ?_)
                obtain ⟨rfl, rfl⟩ := hw
                have hP := hP1
                have hD := hD1.weaken (fun _ q _ h => hFc q.1 h)
                clear hP1 hD1 hk1 hPc hDc hFc
                have hP : va_P (dC, dI) vwCl (w_Md_ h_md ad_md tC q30.2) _ := hP
                have hD : va_D A (w_Md_ h_md ad_md tC q30.2) := hD
                refine W.eq (g2 := F0 m 169 ls []) rfl ?_
                refine lv_iinc (v := x3 + 1) (lv' := [(3, .int (x3 + 1)), (4, .int q20), (0, .ref h_md), (1, .int x1), (2, .int x2)]) hx hb d_Md_tag_169 hl (k := 1) rfl rfl (by decide) rfl (fun ls hl => ?_)
                refine lv_goto (tgt := 85) hx hb d_Md_tag_172 (by decide) ?_
                exact ih_85 x1 x2 (x3 + 1) q30.2 Rl hf _ _ hP hD hS _ (lv_sub hl [0, 2, 3, 4] rfl) Kk
              clear hf
              have hf := hq24
              clear hq24
              refine lv_if_le (tgt := 161) hx hb d_Md_tag_130 (by decide) (fun c23 => ?_) (fun c23 => ?_)
              · have hf := op_t hf c23
                obtain rfl := Option.some.inj hf
                exact J_130 _ _ hP hD hS _ (lv_sub hl [0, 1, 2, 3, 4] rfl)
              · have hf := op_e hf c23
                refine lv_aload_n hx hb d_Md_tag_133 rfl (lv_at hl 2 rfl) ?_
                refine lv_iload hx hb d_Md_tag_134 (lv_at hl 0 rfl) ?_
                refine lv_iconst (v := 1) hx hb d_Md_tag_136 (by decide) ?_
                refine lv_icmp_ne (tgt := 145) hx hb d_Md_tag_137 (by decide) (fun c25 => ?_) (fun c25 => ?_)
                · have hf := op_e hf c25
                  refine lv_iload hx hb d_Md_tag_145 (lv_at hl 0 rfl) ?_
                  refine lv_iconst (v := 2) hx hb d_Md_tag_147 (by decide) ?_
                  refine lv_icmp_ne (tgt := 156) hx hb d_Md_tag_148 (by decide) (fun c27 => ?_) (fun c27 => ?_)
                  · have hf := op_e hf c27
                    refine lv_bipush (v := 85) hx hb d_Md_tag_156 (by decide) ?_
                    obtain ⟨q29, hq29, hf⟩ := op_b hf
                    have hPc := hP
                    have hDc := hD
                    have hFc := va_free (wc := (w_Md_ h_md ad_md tC md)) hD hS hA [0, 1, 2, 3, 4, 5, 6, 7, 8, 9, 10, 11, 12, 13, 14, 15, 16, 17, 18, 19, 20, 21, 22, 23, 24, 25, 26, 27, 28, 29, 30, 31, 32, 33, 34, 35, 36] rfl
                    refine wr_go (va_runV (As := [.int 85]) (rest := []) ⟨hx, hb, hml, hown, hts⟩ (m_Md_sign l dC dI tC h_md ad_md md 85 q29 hq29 _) (cwV 1 hts (gd_V kM_9_254 kI_Md_sign kV_Md_sign kZ_9 kC_Md_sign) rfl rfl rfl (by decide +kernel) ⟨(Nat.le_of_ble_eq_true rfl), (Nat.le_of_ble_eq_true rfl)⟩) ⟨wr_blind, va_recv hK hP (ci := 9) (q0 := 0) rfl rfl, wr_pre hK hPc hDc⟩ rfl rfl hl.1 rfl (lv_room (Nat.le_of_ble_eq_true rfl)) d_Md_tag_158 ⟨(Nat.le_of_ble_eq_true rfl), (Nat.le_of_ble_eq_true rfl)⟩) hS hFc (fun r w1 H1 locs hw hP1 hD1 hk1 hS => ?_)
                    obtain ⟨rfl, rfl⟩ := hw
                    have hP := hP1
                    have hD := hD1.weaken (fun _ q _ h => hFc q.1 h)
                    clear hP1 hD1 hk1 hPc hDc hFc
                    have hP : va_P (dC, dI) vwCl (w_Md_ h_md ad_md tC q29.2) _ := hP
                    have hD : va_D A (w_Md_ h_md ad_md tC q29.2) := hD
                    refine W.eq (g2 := F0 m 161 ls []) rfl ?_
                    obtain rfl := Option.some.inj hf
                    exact J_130 _ _ hP hD hS _ (lv_sub hl [0, 1, 2, 3, 4] rfl)
                  · have hf := op_t hf c27
                    refine lv_bipush (v := 82) hx hb d_Md_tag_151 (by decide) ?_
                    refine lv_goto (tgt := 158) hx hb d_Md_tag_153 (by decide) ?_
                    obtain ⟨q28, hq28, hf⟩ := op_b hf
                    have hPc := hP
                    have hDc := hD
                    have hFc := va_free (wc := (w_Md_ h_md ad_md tC md)) hD hS hA [0, 1, 2, 3, 4, 5, 6, 7, 8, 9, 10, 11, 12, 13, 14, 15, 16, 17, 18, 19, 20, 21, 22, 23, 24, 25, 26, 27, 28, 29, 30, 31, 32, 33, 34, 35, 36] rfl
                    refine wr_go (va_runV (As := [.int 82]) (rest := []) ⟨hx, hb, hml, hown, hts⟩ (m_Md_sign l dC dI tC h_md ad_md md 82 q28 hq28 _) (cwV 1 hts (gd_V kM_9_254 kI_Md_sign kV_Md_sign kZ_9 kC_Md_sign) rfl rfl rfl (by decide +kernel) ⟨(Nat.le_of_ble_eq_true rfl), (Nat.le_of_ble_eq_true rfl)⟩) ⟨wr_blind, va_recv hK hP (ci := 9) (q0 := 0) rfl rfl, wr_pre hK hPc hDc⟩ rfl rfl hl.1 rfl (lv_room (Nat.le_of_ble_eq_true rfl)) d_Md_tag_158 ⟨(Nat.le_of_ble_eq_true rfl), (Nat.le_of_ble_eq_true rfl)⟩) hS hFc (fun r w1 H1 locs hw hP1 hD1 hk1 hS => ?_)
                    obtain ⟨rfl, rfl⟩ := hw
                    have hP := hP1
                    have hD := hD1.weaken (fun _ q _ h => hFc q.1 h)
                    clear hP1 hD1 hk1 hPc hDc hFc
                    have hP : va_P (dC, dI) vwCl (w_Md_ h_md ad_md tC q28.2) _ := hP
                    have hD : va_D A (w_Md_ h_md ad_md tC q28.2) := hD
                    refine W.eq (g2 := F0 m 161 ls []) rfl ?_
                    obtain rfl := Option.some.inj hf
                    exact J_130 _ _ hP hD hS _ (lv_sub hl [0, 1, 2, 3, 4] rfl)
                · have hf := op_t hf c25
                  refine lv_bipush (v := 76) hx hb d_Md_tag_140 (by decide) ?_
                  refine lv_goto (tgt := 158) hx hb d_Md_tag_142 (by decide) ?_
                  obtain ⟨q26, hq26, hf⟩ := op_b hf
                  have hPc := hP
                  have hDc := hD
                  have hFc := va_free (wc := (w_Md_ h_md ad_md tC md)) hD hS hA [0, 1, 2, 3, 4, 5, 6, 7, 8, 9, 10, 11, 12, 13, 14, 15, 16, 17, 18, 19, 20, 21, 22, 23, 24, 25, 26, 27, 28, 29, 30, 31, 32, 33, 34, 35, 36] rfl
                  refine wr_go (va_runV (As := [.int 76]) (rest := []) ⟨hx, hb, hml, hown, hts⟩ (m_Md_sign l dC dI tC h_md ad_md md 76 q26 hq26 _) (cwV 1 hts (gd_V kM_9_254 kI_Md_sign kV_Md_sign kZ_9 kC_Md_sign) rfl rfl rfl (by decide +kernel) ⟨(Nat.le_of_ble_eq_true rfl), (Nat.le_of_ble_eq_true rfl)⟩) ⟨wr_blind, va_recv hK hP (ci := 9) (q0 := 0) rfl rfl, wr_pre hK hPc hDc⟩ rfl rfl hl.1 rfl (lv_room (Nat.le_of_ble_eq_true rfl)) d_Md_tag_158 ⟨(Nat.le_of_ble_eq_true rfl), (Nat.le_of_ble_eq_true rfl)⟩) hS hFc (fun r w1 H1 locs hw hP1 hD1 hk1 hS => ?_)
                  obtain ⟨rfl, rfl⟩ := hw
                  have hP := hP1
                  have hD := hD1.weaken (fun _ q _ h => hFc q.1 h)
                  clear hP1 hD1 hk1 hPc hDc hFc
                  have hP : va_P (dC, dI) vwCl (w_Md_ h_md ad_md tC q26.2) _ := hP
                  have hD : va_D A (w_Md_ h_md ad_md tC q26.2) := hD
                  refine W.eq (g2 := F0 m 161 ls []) rfl ?_
                  obtain rfl := Option.some.inj hf
                  exact J_130 _ _ hP hD hS _ (lv_sub hl [0, 1, 2, 3, 4] rfl)
            clear hf
            have hf := hq20
            clear hq20
            refine lv_if_ne (tgt := 108) hx hb d_Md_tag_101 (by decide) (fun c19 => ?_) (fun c19 => ?_)
            · have hf := op_e hf c19
              refine lv_aload_n hx hb d_Md_tag_108 rfl (lv_at hl 1 rfl) ?_
              refine va_get (D := (dC, dI)) (ci := 9) (v := .ref (ad_md 2)) (C := RX9) (T := TX9) (N := 46) hx hb hts in_X9 hown hK hP 0 rfl rfl 4 (by decide) (hts _ kF_9_16) (fun _ h9 => h9) rfl d_Md_tag_109 ?_
              refine lv_bipush (v := 6) hx hb d_Md_tag_112 (by decide) ?_
              refine lv_aload_n hx hb d_Md_tag_114 rfl (lv_at hl 1 rfl) ?_
              refine va_get (D := (dC, dI)) (ci := 9) (v := .ref (ad_md 4)) (C := RX9) (T := TX9) (N := 46) hx hb hts in_X9 hown hK hP 0 rfl rfl 7 (by decide) (hts _ kF_9_23) (fun _ h9 => h9) rfl d_Md_tag_115 ?_
              refine lv_iload_n hx hb d_Md_tag_118 rfl (lv_at hl 2 rfl) ?_
              obtain ⟨hi21, hf⟩ := op_if hf
              refine va_iald (f := md.2.1 3) hx hb hK hP 5 0 rfl rfl (ix_in hi21) d_Md_tag_119 ?_
              refine lv_imul hx hb d_Md_tag_120 ?_
              refine lv_iload_n hx hb d_Md_tag_121 rfl (lv_at hl 0 rfl) ?_
              refine lv_iadd hx hb d_Md_tag_122 ?_
              refine lv_iconst (v := 1) hx hb d_Md_tag_123 (by decide) ?_
              refine lv_isub hx hb d_Md_tag_124 ?_
              obtain ⟨hi22, hf⟩ := op_if hf
              refine va_iald (f := md.2.1 2) hx hb hK hP 3 0 rfl rfl (ix_in hi22) d_Md_tag_125 ?_
              obtain rfl := Option.some.inj hf
              exact J_101 _ _ hP hD hS _ (lv_sub hl [0, 1, 2, 3] rfl)
            · have hf := op_t hf c19
              refine lv_iconst (v := 0) hx hb d_Md_tag_104 (by decide) ?_
              refine lv_goto (tgt := 126) hx hb d_Md_tag_105 (by decide) ?_
              obtain rfl := Option.some.inj hf
              exact J_101 _ _ hP hD hS _ (lv_sub hl [0, 1, 2, 3] rfl)
      obtain ⟨q15, hq15, hf⟩ := op_b hf
      refine lp_85 fu p1 p2 0 q14.2 q15 hq15 _ _ hP hD hS _ (lv_sub hl [0, 1, 2, 3] rfl) ?_
      intro H locs hP hD hS ls hl
      refine lv_iload_n hx hb d_Md_tag_175 rfl (lv_at hl 3 rfl) ?_
      refine lv_if_lt (tgt := 187) hx hb d_Md_tag_176 (by decide) (fun c31 => ?_) (fun c31 => ?_)
      · have hf := op_t hf c31
        refine lv_iconst (v := (-1)) hx hb d_Md_tag_187 (by decide) ?_
        refine lv_goto (tgt := 197) hx hb d_Md_tag_188 (by decide) ?_
        obtain rfl := Option.some.inj hf
        subst hQ
        subst hAe
        exact W.iret (v := (-1)) hx hb hr (fun t ht hW => ⟨⟨_, _, rfl, ⟨rfl, rfl⟩, by rw [ht]; exact hP, hD⟩, hS.F ht⟩) hS.2.2 d_Md_tag_197
      · have hf := op_e hf c31
        refine lv_iload_n hx hb d_Md_tag_179 rfl (lv_at hl 3 rfl) ?_
        refine lv_aload_n hx hb d_Md_tag_180 rfl (lv_at hl 1 rfl) ?_
        refine va_get (D := (dC, dI)) (ci := 9) (v := .int (q15.2.1 9)) (C := RX9) (T := TX9) (N := 46) hx hb hts in_X9 hown hK hP 0 rfl rfl 45 (by decide) (hts _ kF_9_251) (fun _ h9 => h9) rfl d_Md_tag_181 ?_
        refine lv_icmp_lt (tgt := 191) hx hb d_Md_tag_184 (by decide) (fun c32 => ?_) (fun c32 => ?_)
        · have hf := op_t hf c32
          refine lv_aload_n hx hb d_Md_tag_191 rfl (lv_at hl 1 rfl) ?_
          refine va_get (D := (dC, dI)) (ci := 9) (v := .ref (ad_md 35)) (C := RX9) (T := TX9) (N := 46) hx hb hts in_X9 hown hK hP 0 rfl rfl 44 (by decide) (hts _ kF_9_117) (fun _ h9 => h9) rfl d_Md_tag_192 ?_
          refine lv_iload_n hx hb d_Md_tag_195 rfl (lv_at hl 3 rfl) ?_
          obtain ⟨hi33, hf⟩ := op_if hf
          refine va_iald (f := q15.2.2.1 20) hx hb hK hP 36 0 rfl rfl (ix_in hi33) d_Md_tag_196 ?_
          obtain rfl := Option.some.inj hf
          subst hQ
          subst hAe
          exact W.iret (v := (q15.2.2.1 20) p2.toNatClampNeg) hx hb hr (fun t ht hW => ⟨⟨_, _, rfl, ⟨rfl, rfl⟩, by rw [ht]; exact hP, hD⟩, hS.F ht⟩) hS.2.2 d_Md_tag_197
        · have hf := op_e hf c32
          refine lv_iconst (v := (-1)) hx hb d_Md_tag_187 (by decide) ?_
          refine lv_goto (tgt := 197) hx hb d_Md_tag_188 (by decide) ?_
          obtain rfl := Option.some.inj hf
          subst hQ
          subst hAe
          exact W.iret (v := (-1)) hx hb hr (fun t ht hW => ⟨⟨_, _, rfl, ⟨rfl, rfl⟩, by rw [ht]; exact hP, hD⟩, hS.F ht⟩) hS.2.2 d_Md_tag_197
    clear hf
    have hf := hq9
    clear hq9
    refine lv_icmp_le (tgt := 61) hx hb d_Md_tag_42 (by decide) (fun c8 => ?_) (fun c8 => ?_)
    · have hf := op_t hf c8
      obtain rfl := Option.some.inj hf
      exact J_42 _ _ hP hD hS _ (lv_sub hl [0, 1, 2] rfl)
    · have hf := op_e hf c8
      refine lv_aload_n hx hb d_Md_tag_45 rfl (lv_at hl 0 rfl) ?_
      refine lv_bipush (v := 48) hx hb d_Md_tag_46 (by decide) ?_
      refine lv_aload_n hx hb d_Md_tag_48 rfl (lv_at hl 0 rfl) ?_
      refine va_get (D := (dC, dI)) (ci := 9) (v := .ref (ad_md 5)) (C := RX9) (T := TX9) (N := 46) hx hb hts in_X9 hown hK hP 0 rfl rfl 8 (by decide) (hts _ kF_9_26) (fun _ h9 => h9) rfl d_Md_tag_49 ?_
      refine lv_iload_n hx hb d_Md_tag_52 rfl (lv_at hl 1 rfl) ?_
      obtain ⟨hi10, hf⟩ := op_if hf
      refine va_iald (f := q6.2.2.1 4) hx hb hK hP 6 0 rfl rfl (ix_in hi10) d_Md_tag_53 ?_
      refine lv_bipush (v := 10) hx hb d_Md_tag_54 (by decide) ?_
      refine lv_idiv hx hb d_Md_tag_56 (by decide) ?_
      refine lv_iadd hx hb d_Md_tag_57 ?_
      obtain ⟨q11, hq11, hf⟩ := op_b hf
      have hPc := hP
      have hDc := hD
      have hFc := va_free (wc := (w_Md_ h_md ad_md tC q6.2)) hD hS hA [0, 1, 2, 3, 4, 5, 6, 7, 8, 9, 10, 11, 12, 13, 14, 15, 16, 17, 18, 19, 20, 21, 22, 23, 24, 25, 26, 27, 28, 29, 30, 31, 32, 33, 34, 35, 36] rfl
      refine wr_go (va_runV (As := [.int (48 + (((q6.2.2.1 4) p1.toNatClampNeg) / 10))]) (rest := []) ⟨hx, hb, hml, hown, hts⟩ (m_Md_sign l dC dI tC h_md ad_md q6.2 (48 + (((q6.2.2.1 4) p1.toNatClampNeg) / 10)) q11 hq11 _) (cwV 1 hts (gd_V kM_9_254 kI_Md_sign kV_Md_sign kZ_9 kC_Md_sign) rfl rfl rfl (by decide +kernel) ⟨(Nat.le_of_ble_eq_true rfl), (Nat.le_of_ble_eq_true rfl)⟩) ⟨wr_blind, va_recv hK hP (ci := 9) (q0 := 0) rfl rfl, wr_pre hK hPc hDc⟩ rfl rfl hl.1 rfl (lv_room (Nat.le_of_ble_eq_true rfl)) d_Md_tag_58 ⟨(Nat.le_of_ble_eq_true rfl), (Nat.le_of_ble_eq_true rfl)⟩) hS hFc (fun r w1 H1 locs hw hP1 hD1 hk1 hS => ?_)
      obtain ⟨rfl, rfl⟩ := hw
      have hP := hP1
      have hD := hD1.weaken (fun _ q _ h => hFc q.1 h)
      clear hP1 hD1 hk1 hPc hDc hFc
      have hP : va_P (dC, dI) vwCl (w_Md_ h_md ad_md tC q11.2) _ := hP
      have hD : va_D A (w_Md_ h_md ad_md tC q11.2) := hD
      refine W.eq (g2 := F0 m 61 ls []) rfl ?_
      obtain rfl := Option.some.inj hf
      exact J_42 _ _ hP hD hS _ (lv_sub hl [0, 1, 2] rfl)
  · have hf := op_t hf c2
    refine lv_iconst (v := (-1)) hx hb d_Md_tag_8 (by decide) ?_
    obtain rfl := Option.some.inj hf
    subst hQ
    subst hAe
    exact W.iret (v := (-1)) hx hb hr (fun t ht hW => ⟨⟨_, _, rfl, ⟨rfl, rfl⟩, by rw [ht]; exact hP, hD⟩, hS.F ht⟩) hS.2.2 d_Md_tag_9
def f_Md_differ (md : MS) (p1 : Int32) (p2 : Int32) (p3 : Int32) : Option (Int32) := (if p3 = 0 then if ix p1 12 then if ix p2 12 then (if ((md.2.1 3) p1.toNatClampNeg) = ((md.2.1 3) p2.toNatClampNeg) then some 0 else some 1) else none else none else (if p3 = 1 then if ix p1 12 then if ix p2 12 then (if ((md.2.1 4) p1.toNatClampNeg) = ((md.2.1 4) p2.toNatClampNeg) then some 0 else some 1) else none else none else (if p3 = 2 then if ix p1 12 then if ix p2 12 then (if ((md.2.1 5) p1.toNatClampNeg) = ((md.2.1 5) p2.toNatClampNeg) then some 0 else some 1) else none else none else if ix (((6 * p1) + p3) - 3) 72 then if ix (((6 * p2) + p3) - 3) 72 then (if ((md.2.2 1) (((6 * p1) + p3) - 3).toNatClampNeg) = ((md.2.2 1) (((6 * p2) + p3) - 3).toNatClampNeg) then some 0 else some 1) else none else none)))
def rm_Md_differ : Room := { frames := 0, cells := 0, slots := 0, locals := 0 }
set_option maxHeartbeats 4000000 in
set_option maxRecDepth 100000 in
theorem m_Md_differ (l : Launch) (dC : Nat → ClassId) (dI : Nat → Nat → Nat) (tC : Nat → ClassId) (h_md : Nat) (ad_md : Nat → Nat) (md : MS) (p1 : Int32) (p2 : Int32) (p3 : Int32) (R : Int32) (H : Heap) (hP : va_P (dC, dI) vwCl (w_Md_ h_md ad_md tC md) H) (hf : f_Md_differ md p1 p2 p3 = some R) : Met l y_Md_differ w_Md_differ rm_Md_differ (roP (dC, dI) tC H [.ref h_md, .int p1, .int p2, .int p3]) (roQ H (some (.int R))) 0 0 (fun _ => False) := by
  refine Met.ofW (cc := c_Md_differ) (maxL := 4) (ret := (some (.boolean))) (by decide) rfl ?_
  intro p e s m args below meth c s₁ B hml hv
  obtain ⟨hav, hH, hK⟩ := hv
  have hx := B.exec
  have hb := B.bytes
  have hr := B.returns
  have hts : ∀ w ∈ gw, w.before args s = true := fun w h => atoms_spec (ws := w_Md_differ) B.pre w (List.mem_cons_of_mem _ h)
  have hown : s.vm.findClass RX9 = some m.cls := findClass_of_methodNamed B.named
  have hlocks := B.notSynchronized
  subst hH
  refine q_w (R := rm_Md_differ) (fun Q hQ => ?_)
  refine en_w (av := [.ref h_md, .int p1, .int p2, .int p3]) hav (Nat.le_of_ble_eq_true rfl) (fun ls hl => ?_)
  have hl : lv_has ls 4 [(0, .ref h_md), (1, .int p1), (2, .int p2), (3, .int p3)] := hl
  unfold f_Md_differ at hf
  refine lv_iload_n hx hb d_Md_differ_0 rfl (lv_at hl 3 rfl) ?_
  refine lv_if_ne (tgt := 27) hx hb d_Md_differ_1 (by decide) (fun c1 => ?_) (fun c1 => ?_)
  · have hf := op_e hf c1
    refine lv_iload_n hx hb d_Md_differ_27 rfl (lv_at hl 3 rfl) ?_
    refine lv_iconst (v := 1) hx hb d_Md_differ_28 (by decide) ?_
    refine lv_icmp_ne (tgt := 55) hx hb d_Md_differ_29 (by decide) (fun c5 => ?_) (fun c5 => ?_)
    · have hf := op_e hf c5
      refine lv_iload_n hx hb d_Md_differ_55 rfl (lv_at hl 3 rfl) ?_
      refine lv_iconst (v := 2) hx hb d_Md_differ_56 (by decide) ?_
      refine lv_icmp_ne (tgt := 83) hx hb d_Md_differ_57 (by decide) (fun c9 => ?_) (fun c9 => ?_)
      · have hf := op_e hf c9
        refine lv_aload_n hx hb d_Md_differ_83 rfl (lv_at hl 0 rfl) ?_
        refine va_get (D := (dC, dI)) (ci := 9) (v := .ref (ad_md 7)) (C := RX9) (T := TX9) (N := 46) hx hb hts in_X9 hown hK hP 0 rfl rfl 10 (by decide) (hts _ kF_9_32) (fun _ h9 => h9) rfl d_Md_differ_84 ?_
        refine lv_bipush (v := 6) hx hb d_Md_differ_87 (by decide) ?_
        refine lv_iload_n hx hb d_Md_differ_89 rfl (lv_at hl 1 rfl) ?_
        refine lv_imul hx hb d_Md_differ_90 ?_
        refine lv_iload_n hx hb d_Md_differ_91 rfl (lv_at hl 3 rfl) ?_
        refine lv_iadd hx hb d_Md_differ_92 ?_
        refine lv_iconst (v := 3) hx hb d_Md_differ_93 (by decide) ?_
        refine lv_isub hx hb d_Md_differ_94 ?_
        obtain ⟨hi13, hf⟩ := op_if hf
        refine va_lald (f := md.2.2 1) hx hb hK hP 8 1 rfl rfl (ix_in hi13) d_Md_differ_95 ?_
        refine lv_aload_n hx hb d_Md_differ_96 rfl (lv_at hl 0 rfl) ?_
        refine va_get (D := (dC, dI)) (ci := 9) (v := .ref (ad_md 7)) (C := RX9) (T := TX9) (N := 46) hx hb hts in_X9 hown hK hP 0 rfl rfl 10 (by decide) (hts _ kF_9_32) (fun _ h9 => h9) rfl d_Md_differ_97 ?_
        refine lv_bipush (v := 6) hx hb d_Md_differ_100 (by decide) ?_
        refine lv_iload_n hx hb d_Md_differ_102 rfl (lv_at hl 2 rfl) ?_
        refine lv_imul hx hb d_Md_differ_103 ?_
        refine lv_iload_n hx hb d_Md_differ_104 rfl (lv_at hl 3 rfl) ?_
        refine lv_iadd hx hb d_Md_differ_105 ?_
        refine lv_iconst (v := 3) hx hb d_Md_differ_106 (by decide) ?_
        refine lv_isub hx hb d_Md_differ_107 ?_
        obtain ⟨hi14, hf⟩ := op_if hf
        refine va_lald (f := md.2.2 1) hx hb hK hP 8 1 rfl rfl (ix_in hi14) d_Md_differ_108 ?_
        refine W.lcmp hx hb d_Md_differ_109 ?_
        refine lv_if_eq (tgt := 117) hx hb d_Md_differ_110 (by decide) (fun c15 => ?_) (fun c15 => ?_)
        · have c15 := (lg_cmp_eq _ _).mp c15
          have hf := op_t hf c15
          refine lv_iconst (v := 0) hx hb d_Md_differ_117 (by decide) ?_
          obtain rfl := Option.some.inj hf
          subst hQ
          exact W.zret (v := 0) (ty := .boolean) hx hb hr (by decide) (fun t ht hW => ⟨rfl, ht⟩) (fun q h => by cases h) d_Md_differ_118
        · have c15 := fun h9 => c15 ((lg_cmp_eq _ _).mpr h9)
          have hf := op_e hf c15
          refine lv_iconst (v := 1) hx hb d_Md_differ_113 (by decide) ?_
          refine lv_goto (tgt := 118) hx hb d_Md_differ_114 (by decide) ?_
          obtain rfl := Option.some.inj hf
          subst hQ
          exact W.zret (v := 1) (ty := .boolean) hx hb hr (by decide) (fun t ht hW => ⟨rfl, ht⟩) (fun q h => by cases h) d_Md_differ_118
      · have hf := op_t hf c9
        refine lv_aload_n hx hb d_Md_differ_60 rfl (lv_at hl 0 rfl) ?_
        refine va_get (D := (dC, dI)) (ci := 9) (v := .ref (ad_md 6)) (C := RX9) (T := TX9) (N := 46) hx hb hts in_X9 hown hK hP 0 rfl rfl 9 (by decide) (hts _ kF_9_29) (fun _ h9 => h9) rfl d_Md_differ_61 ?_
        refine lv_iload_n hx hb d_Md_differ_64 rfl (lv_at hl 1 rfl) ?_
        obtain ⟨hi10, hf⟩ := op_if hf
        refine va_iald (f := md.2.1 5) hx hb hK hP 7 0 rfl rfl (ix_in hi10) d_Md_differ_65 ?_
        refine lv_aload_n hx hb d_Md_differ_66 rfl (lv_at hl 0 rfl) ?_
        refine va_get (D := (dC, dI)) (ci := 9) (v := .ref (ad_md 6)) (C := RX9) (T := TX9) (N := 46) hx hb hts in_X9 hown hK hP 0 rfl rfl 9 (by decide) (hts _ kF_9_29) (fun _ h9 => h9) rfl d_Md_differ_67 ?_
        refine lv_iload_n hx hb d_Md_differ_70 rfl (lv_at hl 2 rfl) ?_
        obtain ⟨hi11, hf⟩ := op_if hf
        refine va_iald (f := md.2.1 5) hx hb hK hP 7 0 rfl rfl (ix_in hi11) d_Md_differ_71 ?_
        refine lv_icmp_eq (tgt := 79) hx hb d_Md_differ_72 (by decide) (fun c12 => ?_) (fun c12 => ?_)
        · have hf := op_t hf c12
          refine lv_iconst (v := 0) hx hb d_Md_differ_79 (by decide) ?_
          refine lv_goto (tgt := 118) hx hb d_Md_differ_80 (by decide) ?_
          obtain rfl := Option.some.inj hf
          subst hQ
          exact W.zret (v := 0) (ty := .boolean) hx hb hr (by decide) (fun t ht hW => ⟨rfl, ht⟩) (fun q h => by cases h) d_Md_differ_118
        · have hf := op_e hf c12
          refine lv_iconst (v := 1) hx hb d_Md_differ_75 (by decide) ?_
          refine lv_goto (tgt := 118) hx hb d_Md_differ_76 (by decide) ?_
          obtain rfl := Option.some.inj hf
          subst hQ
          exact W.zret (v := 1) (ty := .boolean) hx hb hr (by decide) (fun t ht hW => ⟨rfl, ht⟩) (fun q h => by cases h) d_Md_differ_118
    · have hf := op_t hf c5
      refine lv_aload_n hx hb d_Md_differ_32 rfl (lv_at hl 0 rfl) ?_
      refine va_get (D := (dC, dI)) (ci := 9) (v := .ref (ad_md 5)) (C := RX9) (T := TX9) (N := 46) hx hb hts in_X9 hown hK hP 0 rfl rfl 8 (by decide) (hts _ kF_9_26) (fun _ h9 => h9) rfl d_Md_differ_33 ?_
      refine lv_iload_n hx hb d_Md_differ_36 rfl (lv_at hl 1 rfl) ?_
      obtain ⟨hi6, hf⟩ := op_if hf
      refine va_iald (f := md.2.1 4) hx hb hK hP 6 0 rfl rfl (ix_in hi6) d_Md_differ_37 ?_
      refine lv_aload_n hx hb d_Md_differ_38 rfl (lv_at hl 0 rfl) ?_
      refine va_get (D := (dC, dI)) (ci := 9) (v := .ref (ad_md 5)) (C := RX9) (T := TX9) (N := 46) hx hb hts in_X9 hown hK hP 0 rfl rfl 8 (by decide) (hts _ kF_9_26) (fun _ h9 => h9) rfl d_Md_differ_39 ?_
      refine lv_iload_n hx hb d_Md_differ_42 rfl (lv_at hl 2 rfl) ?_
      obtain ⟨hi7, hf⟩ := op_if hf
      refine va_iald (f := md.2.1 4) hx hb hK hP 6 0 rfl rfl (ix_in hi7) d_Md_differ_43 ?_
      refine lv_icmp_eq (tgt := 51) hx hb d_Md_differ_44 (by decide) (fun c8 => ?_) (fun c8 => ?_)
      · have hf := op_t hf c8
        refine lv_iconst (v := 0) hx hb d_Md_differ_51 (by decide) ?_
        refine lv_goto (tgt := 118) hx hb d_Md_differ_52 (by decide) ?_
        obtain rfl := Option.some.inj hf
        subst hQ
        exact W.zret (v := 0) (ty := .boolean) hx hb hr (by decide) (fun t ht hW => ⟨rfl, ht⟩) (fun q h => by cases h) d_Md_differ_118
      · have hf := op_e hf c8
        refine lv_iconst (v := 1) hx hb d_Md_differ_47 (by decide) ?_
        refine lv_goto (tgt := 118) hx hb d_Md_differ_48 (by decide) ?_
        obtain rfl := Option.some.inj hf
        subst hQ
        exact W.zret (v := 1) (ty := .boolean) hx hb hr (by decide) (fun t ht hW => ⟨rfl, ht⟩) (fun q h => by cases h) d_Md_differ_118
  · have hf := op_t hf c1
    refine lv_aload_n hx hb d_Md_differ_4 rfl (lv_at hl 0 rfl) ?_
    refine va_get (D := (dC, dI)) (ci := 9) (v := .ref (ad_md 4)) (C := RX9) (T := TX9) (N := 46) hx hb hts in_X9 hown hK hP 0 rfl rfl 7 (by decide) (hts _ kF_9_23) (fun _ h9 => h9) rfl d_Md_differ_5 ?_
    refine lv_iload_n hx hb d_Md_differ_8 rfl (lv_at hl 1 rfl) ?_
    obtain ⟨hi2, hf⟩ := op_if hf
    refine va_iald (f := md.2.1 3) hx hb hK hP 5 0 rfl rfl (ix_in hi2) d_Md_differ_9 ?_
    refine lv_aload_n hx hb d_Md_differ_10 rfl (lv_at hl 0 rfl) ?_
    refine va_get (D := (dC, dI)) (ci := 9) (v := .ref (ad_md 4)) (C := RX9) (T := TX9) (N := 46) hx hb hts in_X9 hown hK hP 0 rfl rfl 7 (by decide) (hts _ kF_9_23) (fun _ h9 => h9) rfl d_Md_differ_11 ?_
    refine lv_iload_n hx hb d_Md_differ_14 rfl (lv_at hl 2 rfl) ?_
    obtain ⟨hi3, hf⟩ := op_if hf
    refine va_iald (f := md.2.1 3) hx hb hK hP 5 0 rfl rfl (ix_in hi3) d_Md_differ_15 ?_
    refine lv_icmp_eq (tgt := 23) hx hb d_Md_differ_16 (by decide) (fun c4 => ?_) (fun c4 => ?_)
    · have hf := op_t hf c4
      refine lv_iconst (v := 0) hx hb d_Md_differ_23 (by decide) ?_
      refine lv_goto (tgt := 118) hx hb d_Md_differ_24 (by decide) ?_
      obtain rfl := Option.some.inj hf
      subst hQ
      exact W.zret (v := 0) (ty := .boolean) hx hb hr (by decide) (fun t ht hW => ⟨rfl, ht⟩) (fun q h => by cases h) d_Md_differ_118
    · have hf := op_e hf c4
      refine lv_iconst (v := 1) hx hb d_Md_differ_19 (by decide) ?_
      refine lv_goto (tgt := 118) hx hb d_Md_differ_20 (by decide) ?_
      obtain rfl := Option.some.inj hf
      subst hQ
      exact W.zret (v := 1) (ty := .boolean) hx hb hr (by decide) (fun t ht hW => ⟨rfl, ht⟩) (fun q h => by cases h) d_Md_differ_118
def l_Md_differs_28 : Nat → Int32 → Int32 → Int32 → Int32 → Int32 → MS → Option (Int32)
  | 0, _, _, _, _, _, _ => none
  | n + 1, x1, x2, x3, x4, x5, md => (if 9 ≤ x5 then some (-1) else (f_Md_differ md x1 x2 x5).bind fun q7 => (if q7 = 0 then l_Md_differs_28 n x1 x2 x3 x4 (x5 + 1) md else (if x4 = x3 then some x5 else l_Md_differs_28 n x1 x2 x3 (x4 + 1) (x5 + 1) md)))
def f_Md_differs (md : MS) (p1 : Int32) (p2 : Int32) (p3 : Int32) : Option (Int32) := (f_Md_isLine md p1).bind fun q1 => (if q1 = 0 then some (-1) else (f_Md_isLine md p2).bind fun q3 => (if q3 = 0 then some (-1) else (if 0 ≤ p3 then l_Md_differs_28 fu p1 p2 p3 0 0 md else some (-1))))
def rm_Md_differs : Room := { frames := 1, cells := 0, slots := 0, locals := 23 }
set_option maxHeartbeats 4000000 in
set_option maxRecDepth 100000 in
theorem m_Md_differs (l : Launch) (dC : Nat → ClassId) (dI : Nat → Nat → Nat) (tC : Nat → ClassId) (h_md : Nat) (ad_md : Nat → Nat) (md : MS) (p1 : Int32) (p2 : Int32) (p3 : Int32) (R : Int32) (H : Heap) (hP : va_P (dC, dI) vwCl (w_Md_ h_md ad_md tC md) H) (hf : f_Md_differs md p1 p2 p3 = some R) : Met l y_Md_differs w_Md_differs rm_Md_differs (roP (dC, dI) tC H [.ref h_md, .int p1, .int p2, .int p3]) (roQ H (some (.int R))) 0 0 (fun _ => False) := by
  refine Met.ofW (cc := c_Md_differs) (maxL := 6) (ret := (some (.int))) (by decide) rfl ?_
  intro p e s m args below meth c s₁ B hml hv
  obtain ⟨hav, hH, hK⟩ := hv
  have hx := B.exec
  have hb := B.bytes
  have hr := B.returns
  have hts : ∀ w ∈ gw, w.before args s = true := fun w h => atoms_spec (ws := w_Md_differs) B.pre w (List.mem_cons_of_mem _ h)
  have hown : s.vm.findClass RX9 = some m.cls := findClass_of_methodNamed B.named
  have hlocks := B.notSynchronized
  subst hH
  refine q_w (R := rm_Md_differs) (fun Q hQ => ?_)
  refine en_w (av := [.ref h_md, .int p1, .int p2, .int p3]) hav (Nat.le_of_ble_eq_true rfl) (fun ls hl => ?_)
  have hl : lv_has ls 6 [(0, .ref h_md), (1, .int p1), (2, .int p2), (3, .int p3)] := hl
  unfold f_Md_differs at hf
  refine lv_aload_n hx hb d_Md_differs_0 rfl (lv_at hl 0 rfl) ?_
  refine lv_iload_n hx hb d_Md_differs_1 rfl (lv_at hl 1 rfl) ?_
  obtain ⟨q1, hq1, hf⟩ := op_b hf
  refine ro_go rfl (va_runV (As := [.int p1]) (rest := []) ⟨hx, hb, hml, hown, hts⟩ (m_Md_isLine l dC dI tC h_md ad_md md p1 q1 _ hP hq1) (cwV 1 hts (gd_V kM_9_154 kI_Md_isLine kV_Md_isLine kZ_9 kC_Md_isLine) rfl rfl rfl (by decide +kernel) ⟨(Nat.le_of_ble_eq_true rfl), (Nat.le_of_ble_eq_true rfl)⟩) ⟨ro_blind, va_recv hK hP (ci := 9) (q0 := 0) rfl rfl, ro_pre hK⟩ rfl rfl hl.1 rfl (lv_room (Nat.le_of_ble_eq_true rfl)) d_Md_differs_2 ⟨(Nat.le_of_ble_eq_true rfl), (Nat.le_of_ble_eq_true rfl)⟩) ?_
  refine W.eq (g2 := F0 m 5 ls [.int q1]) rfl ?_
  refine lv_if_eq (tgt := 20) hx hb d_Md_differs_5 (by decide) (fun c2 => ?_) (fun c2 => ?_)
  · have hf := op_t hf c2
    refine lv_iconst (v := (-1)) hx hb d_Md_differs_20 (by decide) ?_
    obtain rfl := Option.some.inj hf
    subst hQ
    exact W.iret (v := (-1)) hx hb hr (fun t ht hW => ⟨rfl, ht⟩) (fun q h => by cases h) d_Md_differs_21
  · have hf := op_e hf c2
    refine lv_aload_n hx hb d_Md_differs_8 rfl (lv_at hl 0 rfl) ?_
    refine lv_iload_n hx hb d_Md_differs_9 rfl (lv_at hl 2 rfl) ?_
    obtain ⟨q3, hq3, hf⟩ := op_b hf
    refine ro_go rfl (va_runV (As := [.int p2]) (rest := []) ⟨hx, hb, hml, hown, hts⟩ (m_Md_isLine l dC dI tC h_md ad_md md p2 q3 _ hP hq3) (cwV 1 hts (gd_V kM_9_154 kI_Md_isLine kV_Md_isLine kZ_9 kC_Md_isLine) rfl rfl rfl (by decide +kernel) ⟨(Nat.le_of_ble_eq_true rfl), (Nat.le_of_ble_eq_true rfl)⟩) ⟨ro_blind, va_recv hK hP (ci := 9) (q0 := 0) rfl rfl, ro_pre hK⟩ rfl rfl hl.1 rfl (lv_room (Nat.le_of_ble_eq_true rfl)) d_Md_differs_10 ⟨(Nat.le_of_ble_eq_true rfl), (Nat.le_of_ble_eq_true rfl)⟩) ?_
    refine W.eq (g2 := F0 m 13 ls [.int q3]) rfl ?_
    refine lv_if_eq (tgt := 20) hx hb d_Md_differs_13 (by decide) (fun c4 => ?_) (fun c4 => ?_)
    · have hf := op_t hf c4
      refine lv_iconst (v := (-1)) hx hb d_Md_differs_20 (by decide) ?_
      obtain rfl := Option.some.inj hf
      subst hQ
      exact W.iret (v := (-1)) hx hb hr (fun t ht hW => ⟨rfl, ht⟩) (fun q h => by cases h) d_Md_differs_21
    · have hf := op_e hf c4
      refine lv_iload_n hx hb d_Md_differs_16 rfl (lv_at hl 3 rfl) ?_
      refine lv_if_ge (tgt := 22) hx hb d_Md_differs_17 (by decide) (fun c5 => ?_) (fun c5 => ?_)
      · have hf := op_t hf c5
        refine lv_iconst (v := 0) hx hb d_Md_differs_22 (by decide) ?_
        refine lv_istore (lv' := [(4, .int 0), (0, .ref h_md), (1, .int p1), (2, .int p2), (3, .int p3)]) hx hb d_Md_differs_23 hl (by decide) rfl (fun ls hl => ?_)
        refine lv_iconst (v := 0) hx hb d_Md_differs_25 (by decide) ?_
        refine lv_istore (lv' := [(5, .int 0), (4, .int 0), (0, .ref h_md), (1, .int p1), (2, .int p2), (3, .int p3)]) hx hb d_Md_differs_26 hl (by decide) rfl (fun ls hl => ?_)
        have lp_28 : ∀ (n : Nat) (x1 : Int32) (x2 : Int32) (x3 : Int32) (x4 : Int32) (x5 : Int32), l_Md_differs_28 n x1 x2 x3 x4 x5 md = some R → ∀ ls : Array Slot, lv_has ls 6 [(5, .int x5), (4, .int x4), (0, .ref h_md), (1, .int x1), (2, .int x2), (3, .int x3)] → W p l e rm_Md_differs s m args below meth c s.heap [] 0 0 Q (F0 m 28 ls []) := by
          intro n
          induction n with
          | zero => intro x1 x2 x3 x4 x5 hf; cases hf
          | succ n ih_28 =>
            intro x1 x2 x3 x4 x5 hf ls hl
            rw [l_Md_differs_28] at hf
            refine lv_iload hx hb d_Md_differs_28 (lv_at hl 0 rfl) ?_
            refine lv_bipush (v := 9) hx hb d_Md_differs_30 (by decide) ?_
            refine lv_icmp_ge (tgt := 64) hx hb d_Md_differs_32 (by decide) (fun c6 => ?_) (fun c6 => ?_)
            · have hf := op_t hf c6
              refine lv_iconst (v := (-1)) hx hb d_Md_differs_64 (by decide) ?_
              obtain rfl := Option.some.inj hf
              subst hQ
              exact W.iret (v := (-1)) hx hb hr (fun t ht hW => ⟨rfl, ht⟩) (fun q h => by cases h) d_Md_differs_65
            · have hf := op_e hf c6
              refine lv_aload_n hx hb d_Md_differs_35 rfl (lv_at hl 2 rfl) ?_
              refine lv_iload_n hx hb d_Md_differs_36 rfl (lv_at hl 3 rfl) ?_
              refine lv_iload_n hx hb d_Md_differs_37 rfl (lv_at hl 4 rfl) ?_
              refine lv_iload hx hb d_Md_differs_38 (lv_at hl 0 rfl) ?_
              obtain ⟨q7, hq7, hf⟩ := op_b hf
              refine ro_go rfl (va_runV (As := [.int x1, .int x2, .int x5]) (rest := []) ⟨hx, hb, hml, hown, hts⟩ (m_Md_differ l dC dI tC h_md ad_md md x1 x2 x5 q7 _ hP hq7) (cwV 3 hts (gd_V kM_9_257 kI_Md_differ kV_Md_differ kZ_9 kC_Md_differ) rfl rfl rfl (by decide +kernel) ⟨(Nat.le_of_ble_eq_true rfl), (Nat.le_of_ble_eq_true rfl)⟩) ⟨ro_blind, va_recv hK hP (ci := 9) (q0 := 0) rfl rfl, ro_pre hK⟩ rfl rfl hl.1 rfl (lv_room (Nat.le_of_ble_eq_true rfl)) d_Md_differs_40 ⟨(Nat.le_of_ble_eq_true rfl), (Nat.le_of_ble_eq_true rfl)⟩) ?_
              refine W.eq (g2 := F0 m 43 ls [.int q7]) rfl ?_
              refine lv_if_eq (tgt := 58) hx hb d_Md_differs_43 (by decide) (fun c8 => ?_) (fun c8 => ?_)
              · have hf := op_t hf c8
                refine lv_iinc (v := x5 + 1) (lv' := [(5, .int (x5 + 1)), (4, .int x4), (0, .ref h_md), (1, .int x1), (2, .int x2), (3, .int x3)]) hx hb d_Md_differs_58 hl (k := 0) rfl rfl (by decide) rfl (fun ls hl => ?_)
                refine lv_goto (tgt := 28) hx hb d_Md_differs_61 (by decide) ?_
                exact ih_28 x1 x2 x3 x4 (x5 + 1) hf _ (lv_sub hl [0, 1, 2, 3, 4, 5] rfl)
              · have hf := op_e hf c8
                refine lv_iload hx hb d_Md_differs_46 (lv_at hl 1 rfl) ?_
                refine lv_iload_n hx hb d_Md_differs_48 rfl (lv_at hl 5 rfl) ?_
                refine lv_icmp_ne (tgt := 55) hx hb d_Md_differs_49 (by decide) (fun c9 => ?_) (fun c9 => ?_)
                · have hf := op_e hf c9
                  refine lv_iinc (v := x4 + 1) (lv' := [(4, .int (x4 + 1)), (5, .int x5), (0, .ref h_md), (1, .int x1), (2, .int x2), (3, .int x3)]) hx hb d_Md_differs_55 hl (k := 1) rfl rfl (by decide) rfl (fun ls hl => ?_)
                  refine lv_iinc (v := x5 + 1) (lv' := [(5, .int (x5 + 1)), (4, .int (x4 + 1)), (0, .ref h_md), (1, .int x1), (2, .int x2), (3, .int x3)]) hx hb d_Md_differs_58 hl (k := 1) rfl rfl (by decide) rfl (fun ls hl => ?_)
                  refine lv_goto (tgt := 28) hx hb d_Md_differs_61 (by decide) ?_
                  exact ih_28 x1 x2 x3 (x4 + 1) (x5 + 1) hf _ (lv_sub hl [0, 1, 2, 3, 4, 5] rfl)
                · have hf := op_t hf c9
                  refine lv_iload hx hb d_Md_differs_52 (lv_at hl 0 rfl) ?_
                  obtain rfl := Option.some.inj hf
                  subst hQ
                  exact W.iret (v := x5) hx hb hr (fun t ht hW => ⟨rfl, ht⟩) (fun q h => by cases h) d_Md_differs_54
        exact lp_28 fu p1 p2 p3 0 0 hf _ (lv_sub hl [0, 1, 2, 3, 4, 5] rfl)
      · have hf := op_e hf c5
        refine lv_iconst (v := (-1)) hx hb d_Md_differs_20 (by decide) ?_
        obtain rfl := Option.some.inj hf
        subst hQ
        exact W.iret (v := (-1)) hx hb hr (fun t ht hW => ⟨rfl, ht⟩) (fun q h => by cases h) d_Md_differs_21
def f_Md_isBentBefore (md : MS) (p1 : Int32) (p2 : Int32) : Option (Int32) := if ix p1 12 then if ix p2 12 then (if ((md.2.1 4) p1.toNatClampNeg) = ((md.2.1 4) p2.toNatClampNeg) then if ix p1 12 then if ix p2 12 then (if ((md.2.1 3) p1.toNatClampNeg) = ((md.2.1 3) p2.toNatClampNeg) then (if p2 ≤ p1 then some 0 else some 1) else if ix p1 12 then if ix p2 12 then (if ((md.2.1 3) p2.toNatClampNeg) ≤ ((md.2.1 3) p1.toNatClampNeg) then some 0 else some 1) else none else none) else none else none else if ix p1 12 then if ix p2 12 then (if ((md.2.1 4) p2.toNatClampNeg) ≤ ((md.2.1 4) p1.toNatClampNeg) then some 0 else some 1) else none else none) else none else none
def rm_Md_isBentBefore : Room := { frames := 0, cells := 0, slots := 0, locals := 0 }
set_option maxHeartbeats 4000000 in
set_option maxRecDepth 100000 in
theorem m_Md_isBentBefore (l : Launch) (dC : Nat → ClassId) (dI : Nat → Nat → Nat) (tC : Nat → ClassId) (h_md : Nat) (ad_md : Nat → Nat) (md : MS) (p1 : Int32) (p2 : Int32) (R : Int32) (H : Heap) (hP : va_P (dC, dI) vwCl (w_Md_ h_md ad_md tC md) H) (hf : f_Md_isBentBefore md p1 p2 = some R) : Met l y_Md_isBentBefore w_Md_isBentBefore rm_Md_isBentBefore (roP (dC, dI) tC H [.ref h_md, .int p1, .int p2]) (roQ H (some (.int R))) 0 0 (fun _ => False) := by
  refine Met.ofW (cc := c_Md_isBentBefore) (maxL := 3) (ret := (some (.boolean))) (by decide) rfl ?_
  intro p e s m args below meth c s₁ B hml hv
  obtain ⟨hav, hH, hK⟩ := hv
  have hx := B.exec
  have hb := B.bytes
  have hr := B.returns
  have hts : ∀ w ∈ gw, w.before args s = true := fun w h => atoms_spec (ws := w_Md_isBentBefore) B.pre w (List.mem_cons_of_mem _ h)
  have hown : s.vm.findClass RX9 = some m.cls := findClass_of_methodNamed B.named
  have hlocks := B.notSynchronized
  subst hH
  refine q_w (R := rm_Md_isBentBefore) (fun Q hQ => ?_)
  refine en_w (av := [.ref h_md, .int p1, .int p2]) hav (Nat.le_of_ble_eq_true rfl) (fun ls hl => ?_)
  have hl : lv_has ls 3 [(0, .ref h_md), (1, .int p1), (2, .int p2)] := hl
  unfold f_Md_isBentBefore at hf
  refine lv_aload_n hx hb d_Md_isBentBefore_0 rfl (lv_at hl 0 rfl) ?_
  refine va_get (D := (dC, dI)) (ci := 9) (v := .ref (ad_md 5)) (C := RX9) (T := TX9) (N := 46) hx hb hts in_X9 hown hK hP 0 rfl rfl 8 (by decide) (hts _ kF_9_26) (fun _ h9 => h9) rfl d_Md_isBentBefore_1 ?_
  refine lv_iload_n hx hb d_Md_isBentBefore_4 rfl (lv_at hl 1 rfl) ?_
  obtain ⟨hi1, hf⟩ := op_if hf
  refine va_iald (f := md.2.1 4) hx hb hK hP 6 0 rfl rfl (ix_in hi1) d_Md_isBentBefore_5 ?_
  refine lv_aload_n hx hb d_Md_isBentBefore_6 rfl (lv_at hl 0 rfl) ?_
  refine va_get (D := (dC, dI)) (ci := 9) (v := .ref (ad_md 5)) (C := RX9) (T := TX9) (N := 46) hx hb hts in_X9 hown hK hP 0 rfl rfl 8 (by decide) (hts _ kF_9_26) (fun _ h9 => h9) rfl d_Md_isBentBefore_7 ?_
  refine lv_iload_n hx hb d_Md_isBentBefore_10 rfl (lv_at hl 2 rfl) ?_
  obtain ⟨hi2, hf⟩ := op_if hf
  refine va_iald (f := md.2.1 4) hx hb hK hP 6 0 rfl rfl (ix_in hi2) d_Md_isBentBefore_11 ?_
  refine lv_icmp_eq (tgt := 36) hx hb d_Md_isBentBefore_12 (by decide) (fun c3 => ?_) (fun c3 => ?_)
  · have hf := op_t hf c3
    refine lv_aload_n hx hb d_Md_isBentBefore_36 rfl (lv_at hl 0 rfl) ?_
    refine va_get (D := (dC, dI)) (ci := 9) (v := .ref (ad_md 4)) (C := RX9) (T := TX9) (N := 46) hx hb hts in_X9 hown hK hP 0 rfl rfl 7 (by decide) (hts _ kF_9_23) (fun _ h9 => h9) rfl d_Md_isBentBefore_37 ?_
    refine lv_iload_n hx hb d_Md_isBentBefore_40 rfl (lv_at hl 1 rfl) ?_
    obtain ⟨hi4, hf⟩ := op_if hf
    refine va_iald (f := md.2.1 3) hx hb hK hP 5 0 rfl rfl (ix_in hi4) d_Md_isBentBefore_41 ?_
    refine lv_aload_n hx hb d_Md_isBentBefore_42 rfl (lv_at hl 0 rfl) ?_
    refine va_get (D := (dC, dI)) (ci := 9) (v := .ref (ad_md 4)) (C := RX9) (T := TX9) (N := 46) hx hb hts in_X9 hown hK hP 0 rfl rfl 7 (by decide) (hts _ kF_9_23) (fun _ h9 => h9) rfl d_Md_isBentBefore_43 ?_
    refine lv_iload_n hx hb d_Md_isBentBefore_46 rfl (lv_at hl 2 rfl) ?_
    obtain ⟨hi5, hf⟩ := op_if hf
    refine va_iald (f := md.2.1 3) hx hb hK hP 5 0 rfl rfl (ix_in hi5) d_Md_isBentBefore_47 ?_
    refine lv_icmp_eq (tgt := 74) hx hb d_Md_isBentBefore_48 (by decide) (fun c6 => ?_) (fun c6 => ?_)
    · have hf := op_t hf c6
      refine lv_iload_n hx hb d_Md_isBentBefore_74 rfl (lv_at hl 1 rfl) ?_
      refine lv_iload_n hx hb d_Md_isBentBefore_75 rfl (lv_at hl 2 rfl) ?_
      refine lv_icmp_ge (tgt := 83) hx hb d_Md_isBentBefore_76 (by decide) (fun c7 => ?_) (fun c7 => ?_)
      · have hf := op_t hf c7
        refine lv_iconst (v := 0) hx hb d_Md_isBentBefore_83 (by decide) ?_
        obtain rfl := Option.some.inj hf
        subst hQ
        exact W.zret (v := 0) (ty := .boolean) hx hb hr (by decide) (fun t ht hW => ⟨rfl, ht⟩) (fun q h => by cases h) d_Md_isBentBefore_84
      · have hf := op_e hf c7
        refine lv_iconst (v := 1) hx hb d_Md_isBentBefore_79 (by decide) ?_
        refine lv_goto (tgt := 84) hx hb d_Md_isBentBefore_80 (by decide) ?_
        obtain rfl := Option.some.inj hf
        subst hQ
        exact W.zret (v := 1) (ty := .boolean) hx hb hr (by decide) (fun t ht hW => ⟨rfl, ht⟩) (fun q h => by cases h) d_Md_isBentBefore_84
    · have hf := op_e hf c6
      refine lv_aload_n hx hb d_Md_isBentBefore_51 rfl (lv_at hl 0 rfl) ?_
      refine va_get (D := (dC, dI)) (ci := 9) (v := .ref (ad_md 4)) (C := RX9) (T := TX9) (N := 46) hx hb hts in_X9 hown hK hP 0 rfl rfl 7 (by decide) (hts _ kF_9_23) (fun _ h9 => h9) rfl d_Md_isBentBefore_52 ?_
      refine lv_iload_n hx hb d_Md_isBentBefore_55 rfl (lv_at hl 1 rfl) ?_
      obtain ⟨hi8, hf⟩ := op_if hf
      refine va_iald (f := md.2.1 3) hx hb hK hP 5 0 rfl rfl (ix_in hi8) d_Md_isBentBefore_56 ?_
      refine lv_aload_n hx hb d_Md_isBentBefore_57 rfl (lv_at hl 0 rfl) ?_
      refine va_get (D := (dC, dI)) (ci := 9) (v := .ref (ad_md 4)) (C := RX9) (T := TX9) (N := 46) hx hb hts in_X9 hown hK hP 0 rfl rfl 7 (by decide) (hts _ kF_9_23) (fun _ h9 => h9) rfl d_Md_isBentBefore_58 ?_
      refine lv_iload_n hx hb d_Md_isBentBefore_61 rfl (lv_at hl 2 rfl) ?_
      obtain ⟨hi9, hf⟩ := op_if hf
      refine va_iald (f := md.2.1 3) hx hb hK hP 5 0 rfl rfl (ix_in hi9) d_Md_isBentBefore_62 ?_
      refine lv_icmp_ge (tgt := 70) hx hb d_Md_isBentBefore_63 (by decide) (fun c10 => ?_) (fun c10 => ?_)
      · have hf := op_t hf c10
        refine lv_iconst (v := 0) hx hb d_Md_isBentBefore_70 (by decide) ?_
        refine lv_goto (tgt := 84) hx hb d_Md_isBentBefore_71 (by decide) ?_
        obtain rfl := Option.some.inj hf
        subst hQ
        exact W.zret (v := 0) (ty := .boolean) hx hb hr (by decide) (fun t ht hW => ⟨rfl, ht⟩) (fun q h => by cases h) d_Md_isBentBefore_84
      · have hf := op_e hf c10
        refine lv_iconst (v := 1) hx hb d_Md_isBentBefore_66 (by decide) ?_
        refine lv_goto (tgt := 84) hx hb d_Md_isBentBefore_67 (by decide) ?_
        obtain rfl := Option.some.inj hf
        subst hQ
        exact W.zret (v := 1) (ty := .boolean) hx hb hr (by decide) (fun t ht hW => ⟨rfl, ht⟩) (fun q h => by cases h) d_Md_isBentBefore_84
  · have hf := op_e hf c3
    refine lv_aload_n hx hb d_Md_isBentBefore_15 rfl (lv_at hl 0 rfl) ?_
    refine va_get (D := (dC, dI)) (ci := 9) (v := .ref (ad_md 5)) (C := RX9) (T := TX9) (N := 46) hx hb hts in_X9 hown hK hP 0 rfl rfl 8 (by decide) (hts _ kF_9_26) (fun _ h9 => h9) rfl d_Md_isBentBefore_16 ?_
    refine lv_iload_n hx hb d_Md_isBentBefore_19 rfl (lv_at hl 1 rfl) ?_
    obtain ⟨hi11, hf⟩ := op_if hf
    refine va_iald (f := md.2.1 4) hx hb hK hP 6 0 rfl rfl (ix_in hi11) d_Md_isBentBefore_20 ?_
    refine lv_aload_n hx hb d_Md_isBentBefore_21 rfl (lv_at hl 0 rfl) ?_
    refine va_get (D := (dC, dI)) (ci := 9) (v := .ref (ad_md 5)) (C := RX9) (T := TX9) (N := 46) hx hb hts in_X9 hown hK hP 0 rfl rfl 8 (by decide) (hts _ kF_9_26) (fun _ h9 => h9) rfl d_Md_isBentBefore_22 ?_
    refine lv_iload_n hx hb d_Md_isBentBefore_25 rfl (lv_at hl 2 rfl) ?_
    obtain ⟨hi12, hf⟩ := op_if hf
    refine va_iald (f := md.2.1 4) hx hb hK hP 6 0 rfl rfl (ix_in hi12) d_Md_isBentBefore_26 ?_
    refine lv_icmp_ge (tgt := 34) hx hb d_Md_isBentBefore_27 (by decide) (fun c13 => ?_) (fun c13 => ?_)
    · have hf := op_t hf c13
      refine lv_iconst (v := 0) hx hb d_Md_isBentBefore_34 (by decide) ?_
      obtain rfl := Option.some.inj hf
      subst hQ
      exact W.zret (v := 0) (ty := .boolean) hx hb hr (by decide) (fun t ht hW => ⟨rfl, ht⟩) (fun q h => by cases h) d_Md_isBentBefore_35
    · have hf := op_e hf c13
      refine lv_iconst (v := 1) hx hb d_Md_isBentBefore_30 (by decide) ?_
      refine lv_goto (tgt := 35) hx hb d_Md_isBentBefore_31 (by decide) ?_
      obtain rfl := Option.some.inj hf
      subst hQ
      exact W.zret (v := 1) (ty := .boolean) hx hb hr (by decide) (fun t ht hW => ⟨rfl, ht⟩) (fun q h => by cases h) d_Md_isBentBefore_35
def l_Md_order_15 : Nat → Int32 → Int32 → Int32 → Int32 → MS → Option (Int32 × Int32)
  | 0, _, _, _, _, _ => none
  | n + 1, x1, x2, x3, x4, md => (if (md.1 2) ≤ x4 then some (x3, x4) else (f_Md_isBentBefore md x4 x2).bind fun q4 => (if q4 = 0 then (some (x3 + 0) : Option Int32).bind fun v6 => l_Md_order_15 n x1 x2 v6 (x4 + 1) md else (some (x3 + 1) : Option Int32).bind fun v7 => l_Md_order_15 n x1 x2 v7 (x4 + 1) md))
def l_Md_order_2 : Nat → Int32 → Int32 → MS → Option (Int32)
  | 0, _, _, _ => none
  | n + 1, x1, x2, md => (if (md.1 2) ≤ x2 then some (-1) else (l_Md_order_15 fu x1 x2 0 0 md).bind fun q2 => (if q2.1 = x1 then some x2 else l_Md_order_2 n x1 (x2 + 1) md))
def f_Md_order (md : MS) (p1 : Int32) : Option (Int32) := l_Md_order_2 fu p1 0 md
def rm_Md_order : Room := { frames := 1, cells := 0, slots := 0, locals := 22 }
set_option maxHeartbeats 4000000 in
set_option maxRecDepth 100000 in
theorem m_Md_order (l : Launch) (dC : Nat → ClassId) (dI : Nat → Nat → Nat) (tC : Nat → ClassId) (h_md : Nat) (ad_md : Nat → Nat) (md : MS) (p1 : Int32) (R : Int32) (H : Heap) (hP : va_P (dC, dI) vwCl (w_Md_ h_md ad_md tC md) H) (hf : f_Md_order md p1 = some R) : Met l y_Md_order w_Md_order rm_Md_order (roP (dC, dI) tC H [.ref h_md, .int p1]) (roQ H (some (.int R))) 0 0 (fun _ => False) := by
  refine Met.ofW (cc := c_Md_order) (maxL := 5) (ret := (some (.int))) (by decide) rfl ?_
  intro p e s m args below meth c s₁ B hml hv
  obtain ⟨hav, hH, hK⟩ := hv
  have hx := B.exec
  have hb := B.bytes
  have hr := B.returns
  have hts : ∀ w ∈ gw, w.before args s = true := fun w h => atoms_spec (ws := w_Md_order) B.pre w (List.mem_cons_of_mem _ h)
  have hown : s.vm.findClass RX9 = some m.cls := findClass_of_methodNamed B.named
  have hlocks := B.notSynchronized
  subst hH
  refine q_w (R := rm_Md_order) (fun Q hQ => ?_)
  refine en_w (av := [.ref h_md, .int p1]) hav (Nat.le_of_ble_eq_true rfl) (fun ls hl => ?_)
  have hl : lv_has ls 5 [(0, .ref h_md), (1, .int p1)] := hl
  unfold f_Md_order at hf
  refine lv_iconst (v := 0) hx hb d_Md_order_0 (by decide) ?_
  refine lv_istore_n (lv' := [(2, .int 0), (0, .ref h_md), (1, .int p1)]) hx hb d_Md_order_1 rfl hl (by decide) rfl (fun ls hl => ?_)
  have lp_2 : ∀ (n : Nat) (x1 : Int32) (x2 : Int32), l_Md_order_2 n x1 x2 md = some R → ∀ ls : Array Slot, lv_has ls 5 [(2, .int x2), (0, .ref h_md), (1, .int x1)] → W p l e rm_Md_order s m args below meth c s.heap [] 0 0 Q (F0 m 2 ls []) := by
    intro n
    induction n with
    | zero => intro x1 x2 hf; cases hf
    | succ n ih_2 =>
      intro x1 x2 hf ls hl
      rw [l_Md_order_2] at hf
      refine lv_iload_n hx hb d_Md_order_2 rfl (lv_at hl 0 rfl) ?_
      refine lv_aload_n hx hb d_Md_order_3 rfl (lv_at hl 1 rfl) ?_
      refine va_get (D := (dC, dI)) (ci := 9) (v := .int (md.1 2)) (C := RX9) (T := TX9) (N := 46) hx hb hts in_X9 hown hK hP 0 rfl rfl 6 (by decide) (hts _ kF_9_120) (fun _ h9 => h9) rfl d_Md_order_4 ?_
      refine lv_icmp_ge (tgt := 61) hx hb d_Md_order_7 (by decide) (fun c1 => ?_) (fun c1 => ?_)
      · have hf := op_t hf c1
        refine lv_iconst (v := (-1)) hx hb d_Md_order_61 (by decide) ?_
        obtain rfl := Option.some.inj hf
        subst hQ
        exact W.iret (v := (-1)) hx hb hr (fun t ht hW => ⟨rfl, ht⟩) (fun q h => by cases h) d_Md_order_62
      · have hf := op_e hf c1
        refine lv_iconst (v := 0) hx hb d_Md_order_10 (by decide) ?_
        refine lv_istore_n (lv' := [(3, .int 0), (2, .int x2), (0, .ref h_md), (1, .int x1)]) hx hb d_Md_order_11 rfl hl (by decide) rfl (fun ls hl => ?_)
        refine lv_iconst (v := 0) hx hb d_Md_order_12 (by decide) ?_
        refine lv_istore (lv' := [(4, .int 0), (3, .int 0), (2, .int x2), (0, .ref h_md), (1, .int x1)]) hx hb d_Md_order_13 hl (by decide) rfl (fun ls hl => ?_)
        have lp_15 : ∀ (n : Nat) (x1 : Int32) (x2 : Int32) (x3 : Int32) (x4 : Int32) (Rl : Int32 × Int32), l_Md_order_15 n x1 x2 x3 x4 md = some Rl → ∀ ls : Array Slot, lv_has ls 5 [(4, .int x4), (3, .int x3), (2, .int x2), (0, .ref h_md), (1, .int x1)] → (∀ ls : Array Slot, lv_has ls 5 [(4, .int Rl.2), (3, .int Rl.1), (2, .int x2), (0, .ref h_md), (1, .int x1)] → W p l e rm_Md_order s m args below meth c s.heap [] 0 0 Q (F0 m 48 ls [])) → W p l e rm_Md_order s m args below meth c s.heap [] 0 0 Q (F0 m 15 ls []) := by
          intro n
          induction n with
          | zero => intro x1 x2 x3 x4 Rl hf; cases hf
          | succ n ih_15 =>
            intro x1 x2 x3 x4 Rl hf ls hl Kk
            rw [l_Md_order_15] at hf
            refine lv_iload hx hb d_Md_order_15 (lv_at hl 0 rfl) ?_
            refine lv_aload_n hx hb d_Md_order_17 rfl (lv_at hl 3 rfl) ?_
            refine va_get (D := (dC, dI)) (ci := 9) (v := .int (md.1 2)) (C := RX9) (T := TX9) (N := 46) hx hb hts in_X9 hown hK hP 0 rfl rfl 6 (by decide) (hts _ kF_9_120) (fun _ h9 => h9) rfl d_Md_order_18 ?_
            refine lv_icmp_ge (tgt := 48) hx hb d_Md_order_21 (by decide) (fun c3 => ?_) (fun c3 => ?_)
            · have hf := op_t hf c3
              obtain rfl := Option.some.inj hf
              exact Kk _ (lv_sub hl [0, 1, 2, 3, 4] rfl)
            · have hf := op_e hf c3
              refine lv_iload_n hx hb d_Md_order_24 rfl (lv_at hl 1 rfl) ?_
              refine lv_aload_n hx hb d_Md_order_25 rfl (lv_at hl 3 rfl) ?_
              refine lv_iload hx hb d_Md_order_26 (lv_at hl 0 rfl) ?_
              refine lv_iload_n hx hb d_Md_order_28 rfl (lv_at hl 2 rfl) ?_
              obtain ⟨q4, hq4, hf⟩ := op_b hf
              refine ro_go rfl (va_runV (As := [.int x4, .int x2]) (rest := [.int x3]) ⟨hx, hb, hml, hown, hts⟩ (m_Md_isBentBefore l dC dI tC h_md ad_md md x4 x2 q4 _ hP hq4) (cwV 2 hts (gd_V kM_9_261 kI_Md_isBentBefore kV_Md_isBentBefore kZ_9 kC_Md_isBentBefore) rfl rfl rfl (by decide +kernel) ⟨(Nat.le_of_ble_eq_true rfl), (Nat.le_of_ble_eq_true rfl)⟩) ⟨ro_blind, va_recv hK hP (ci := 9) (q0 := 0) rfl rfl, ro_pre hK⟩ rfl rfl hl.1 rfl (lv_room (Nat.le_of_ble_eq_true rfl)) d_Md_order_29 ⟨(Nat.le_of_ble_eq_true rfl), (Nat.le_of_ble_eq_true rfl)⟩) ?_
              refine W.eq (g2 := F0 m 32 ls [.int q4, .int x3]) rfl ?_
              refine lv_if_eq (tgt := 39) hx hb d_Md_order_32 (by decide) (fun c5 => ?_) (fun c5 => ?_)
              · have hf := op_t hf c5
                refine lv_iconst (v := 0) hx hb d_Md_order_39 (by decide) ?_
                refine lv_iadd hx hb d_Md_order_40 ?_
                obtain ⟨v6, hv6, hf⟩ := op_b hf
                refine rw_i (y := v6) (Option.some.inj hv6) ?_
                refine lv_istore_n (lv' := [(3, .int v6), (4, .int x4), (2, .int x2), (0, .ref h_md), (1, .int x1)]) hx hb d_Md_order_41 rfl hl (by decide) rfl (fun ls hl => ?_)
                refine lv_iinc (v := x4 + 1) (lv' := [(4, .int (x4 + 1)), (3, .int v6), (2, .int x2), (0, .ref h_md), (1, .int x1)]) hx hb d_Md_order_42 hl (k := 1) rfl rfl (by decide) rfl (fun ls hl => ?_)
                refine lv_goto (tgt := 15) hx hb d_Md_order_45 (by decide) ?_
                exact ih_15 x1 x2 v6 (x4 + 1) Rl hf _ (lv_sub hl [0, 1, 2, 3, 4] rfl) Kk
              · have hf := op_e hf c5
                refine lv_iconst (v := 1) hx hb d_Md_order_35 (by decide) ?_
                refine lv_goto (tgt := 40) hx hb d_Md_order_36 (by decide) ?_
                refine lv_iadd hx hb d_Md_order_40 ?_
                obtain ⟨v7, hv7, hf⟩ := op_b hf
                refine rw_i (y := v7) (Option.some.inj hv7) ?_
                refine lv_istore_n (lv' := [(3, .int v7), (4, .int x4), (2, .int x2), (0, .ref h_md), (1, .int x1)]) hx hb d_Md_order_41 rfl hl (by decide) rfl (fun ls hl => ?_)
                refine lv_iinc (v := x4 + 1) (lv' := [(4, .int (x4 + 1)), (3, .int v7), (2, .int x2), (0, .ref h_md), (1, .int x1)]) hx hb d_Md_order_42 hl (k := 1) rfl rfl (by decide) rfl (fun ls hl => ?_)
                refine lv_goto (tgt := 15) hx hb d_Md_order_45 (by decide) ?_
                exact ih_15 x1 x2 v7 (x4 + 1) Rl hf _ (lv_sub hl [0, 1, 2, 3, 4] rfl) Kk
        obtain ⟨q2, hq2, hf⟩ := op_b hf
        refine lp_15 fu x1 x2 0 0 q2 hq2 _ (lv_sub hl [0, 1, 2, 3, 4] rfl) ?_
        intro ls hl
        refine lv_iload_n hx hb d_Md_order_48 rfl (lv_at hl 1 rfl) ?_
        refine lv_iload_n hx hb d_Md_order_49 rfl (lv_at hl 4 rfl) ?_
        refine lv_icmp_ne (tgt := 55) hx hb d_Md_order_50 (by decide) (fun c8 => ?_) (fun c8 => ?_)
        · have hf := op_e hf c8
          refine lv_iinc (v := x2 + 1) (lv' := [(2, .int (x2 + 1)), (4, .int q2.2), (3, .int q2.1), (0, .ref h_md), (1, .int x1)]) hx hb d_Md_order_55 hl (k := 2) rfl rfl (by decide) rfl (fun ls hl => ?_)
          refine lv_goto (tgt := 2) hx hb d_Md_order_58 (by decide) ?_
          exact ih_2 x1 (x2 + 1) hf _ (lv_sub hl [0, 3, 4] rfl)
        · have hf := op_t hf c8
          refine lv_iload_n hx hb d_Md_order_53 rfl (lv_at hl 2 rfl) ?_
          obtain rfl := Option.some.inj hf
          subst hQ
          exact W.iret (v := x2) hx hb hr (fun t ht hW => ⟨rfl, ht⟩) (fun q h => by cases h) d_Md_order_54
  exact lp_2 fu p1 0 hf _ (lv_sub hl [0, 1, 2] rfl)
