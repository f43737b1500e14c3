def f_Md_isIn (p1 : Int64) (p2 : Int64) (p3 : Int64) : Option (Int32) := (if p1 < p2 then some 0 else (if p3 < p1 then some 0 else some 1))
def rm_Md_isIn : Room := { frames := 0, cells := 0, slots := 0, locals := 0 }
set_option maxHeartbeats 4000000 in
set_option maxRecDepth 100000 in
theorem m_Md_isIn (l : Launch) (dC : Nat → ClassId) (dI : Nat → Nat → Nat) (tC : Nat → ClassId) (p1 : Int64) (p2 : Int64) (p3 : Int64) (R : Int32) (H : Heap) (hf : f_Md_isIn p1 p2 p3 = some R) : Met l y_Md_isIn w_Md_isIn rm_Md_isIn (roP (dC, dI) tC H [.long p1, .long p2, .long p3]) (roQ H (some (.int R))) 0 0 (fun _ => False) := by
  refine Met.ofW (cc := c_Md_isIn) (maxL := 6) (ret := (some (.boolean))) (by decide) rfl ?_
  intro p e s m args below meth c s₁ B hml hv
  obtain ⟨hav, hH, hK⟩ := hv
  have hx := B.exec
  have hb := B.bytes
  have hr := B.returns
  have hts : ∀ w ∈ gw, w.before args s = true := fun w h => atoms_spec (ws := w_Md_isIn) B.pre w (List.mem_cons_of_mem _ h)
  have hown : s.vm.findClass RX9 = some m.cls := findClass_of_methodNamed B.named
  have hlocks := B.notSynchronized
  subst hH
  refine q_w (R := rm_Md_isIn) (fun Q hQ => ?_)
  refine en_w (av := [.long p1, .long p2, .long p3]) hav (Nat.le_of_ble_eq_true rfl) (fun ls hl => ?_)
  have hl : lv_has ls 6 [(0, .long p1), (2, .long p2), (4, .long p3)] := hl
  unfold f_Md_isIn at hf
  refine lv_lload_n hx hb d_Md_isIn_0 rfl (lv_at hl 0 rfl) ?_
  refine lv_lload_n hx hb d_Md_isIn_1 rfl (lv_at hl 1 rfl) ?_
  refine W.lcmp hx hb d_Md_isIn_2 ?_
  refine lv_if_lt (tgt := 17) hx hb d_Md_isIn_3 (by decide) (fun c1 => ?_) (fun c1 => ?_)
  · have c1 := (lg_cmp_lt _ _).mp c1
    have hf := op_t hf c1
    refine lv_iconst (v := 0) hx hb d_Md_isIn_17 (by decide) ?_
    obtain rfl := Option.some.inj hf
    subst hQ
    exact W.zret (v := 0) (ty := .boolean) hx hb hr (by decide) (fun t ht hW => ⟨rfl, ht⟩) (fun q h => by cases h) d_Md_isIn_18
  · have c1 := fun h9 => c1 ((lg_cmp_lt _ _).mpr h9)
    have hf := op_e hf c1
    refine lv_lload_n hx hb d_Md_isIn_6 rfl (lv_at hl 0 rfl) ?_
    refine lv_lload hx hb d_Md_isIn_7 (lv_at hl 2 rfl) ?_
    refine W.lcmp hx hb d_Md_isIn_9 ?_
    refine lv_if_gt (tgt := 17) hx hb d_Md_isIn_10 (by decide) (fun c2 => ?_) (fun c2 => ?_)
    · have c2 := (lg_cmp_gt _ _).mp c2
      have hf := op_t hf c2
      refine lv_iconst (v := 0) hx hb d_Md_isIn_17 (by decide) ?_
      obtain rfl := Option.some.inj hf
      subst hQ
      exact W.zret (v := 0) (ty := .boolean) hx hb hr (by decide) (fun t ht hW => ⟨rfl, ht⟩) (fun q h => by cases h) d_Md_isIn_18
    · have c2 := fun h9 => c2 ((lg_cmp_gt _ _).mpr h9)
      have hf := op_e hf c2
      refine lv_iconst (v := 1) hx hb d_Md_isIn_13 (by decide) ?_
      refine lv_goto (tgt := 18) hx hb d_Md_isIn_14 (by decide) ?_
      obtain rfl := Option.some.inj hf
      subst hQ
      exact W.zret (v := 1) (ty := .boolean) hx hb hr (by decide) (fun t ht hW => ⟨rfl, ht⟩) (fun q h => by cases h) d_Md_isIn_18
def f_Md_isLine (md : MS) (p1 : Int32) : Option (Int32) := (if p1 < 0 then some 0 else (if (md.1 2) ≤ p1 then some 0 else some 1))
def rm_Md_isLine : Room := { frames := 0, cells := 0, slots := 0, locals := 0 }
set_option maxHeartbeats 4000000 in
set_option maxRecDepth 100000 in
theorem m_Md_isLine (l : Launch) (dC : Nat → ClassId) (dI : Nat → Nat → Nat) (tC : Nat → ClassId) (h_md : Nat) (ad_md : Nat → Nat) (md : MS) (p1 : Int32) (R : Int32) (H : Heap) (hP : va_P (dC, dI) vwCl (w_Md_ h_md ad_md tC md) H) (hf : f_Md_isLine md p1 = some R) : Met l y_Md_isLine w_Md_isLine rm_Md_isLine (roP (dC, dI) tC H [.ref h_md, .int p1]) (roQ H (some (.int R))) 0 0 (fun _ => False) := by
  refine Met.ofW (cc := c_Md_isLine) (maxL := 2) (ret := (some (.boolean))) (by decide) rfl ?_
  intro p e s m args below meth c s₁ B hml hv
  obtain ⟨hav, hH, hK⟩ := hv
  have hx := B.exec
  have hb := B.bytes
  have hr := B.returns
  have hts : ∀ w ∈ gw, w.before args s = true := fun w h => atoms_spec (ws := w_Md_isLine) B.pre w (List.mem_cons_of_mem _ h)
  have hown : s.vm.findClass RX9 = some m.cls := findClass_of_methodNamed B.named
  have hlocks := B.notSynchronized
  subst hH
  refine q_w (R := rm_Md_isLine) (fun Q hQ => ?_)
  refine en_w (av := [.ref h_md, .int p1]) hav (Nat.le_of_ble_eq_true rfl) (fun ls hl => ?_)
  have hl : lv_has ls 2 [(0, .ref h_md), (1, .int p1)] := hl
  unfold f_Md_isLine at hf
  refine lv_iload_n hx hb d_Md_isLine_0 rfl (lv_at hl 1 rfl) ?_
  refine lv_if_lt (tgt := 16) hx hb d_Md_isLine_1 (by decide) (fun c1 => ?_) (fun c1 => ?_)
  · have hf := op_t hf c1
    refine lv_iconst (v := 0) hx hb d_Md_isLine_16 (by decide) ?_
    obtain rfl := Option.some.inj hf
    subst hQ
    exact W.zret (v := 0) (ty := .boolean) hx hb hr (by decide) (fun t ht hW => ⟨rfl, ht⟩) (fun q h => by cases h) d_Md_isLine_17
  · have hf := op_e hf c1
    refine lv_iload_n hx hb d_Md_isLine_4 rfl (lv_at hl 1 rfl) ?_
    refine lv_aload_n hx hb d_Md_isLine_5 rfl (lv_at hl 0 rfl) ?_
    refine va_get (D := (dC, dI)) (ci := 9) (v := .int (md.1 2)) (C := RX9) (T := TX9) (N := 46) hx hb hts in_X9 hown hK hP 0 rfl rfl 6 (by decide) (hts _ kF_9_120) (fun _ h9 => h9) rfl d_Md_isLine_6 ?_
    refine lv_icmp_ge (tgt := 16) hx hb d_Md_isLine_9 (by decide) (fun c2 => ?_) (fun c2 => ?_)
    · have hf := op_t hf c2
      refine lv_iconst (v := 0) hx hb d_Md_isLine_16 (by decide) ?_
      obtain rfl := Option.some.inj hf
      subst hQ
      exact W.zret (v := 0) (ty := .boolean) hx hb hr (by decide) (fun t ht hW => ⟨rfl, ht⟩) (fun q h => by cases h) d_Md_isLine_17
    · have hf := op_e hf c2
      refine lv_iconst (v := 1) hx hb d_Md_isLine_12 (by decide) ?_
      refine lv_goto (tgt := 17) hx hb d_Md_isLine_13 (by decide) ?_
      obtain rfl := Option.some.inj hf
      subst hQ
      exact W.zret (v := 1) (ty := .boolean) hx hb hr (by decide) (fun t ht hW => ⟨rfl, ht⟩) (fun q h => by cases h) d_Md_isLine_17
def f_Md_unit (md : MS) (p1 : Int32) : Option (Int32 × MS) := (f_Md_isIn p1.toInt64 32 126).bind fun q1 => (if q1 = 0 then some (0, md) else (if (md.1 0) = 40 then some (0, md) else if ix (md.1 0) 40 then (some (sA md 0 (upd (md.2.1 0) (md.1 0).toNatClampNeg p1))).bind fun md5 => (some (sI md5 0 ((md5.1 0) + 1))).bind fun md6 => some (1, md6) else none))
def rm_Md_unit : Room := { frames := 1, cells := 0, slots := 0, locals := 25 }
set_option maxHeartbeats 4000000 in
set_option maxRecDepth 100000 in
theorem m_Md_unit (l : Launch) (dC : Nat → ClassId) (dI : Nat → Nat → Nat) (tC : Nat → ClassId) (h_md : Nat) (ad_md : Nat → Nat) (md : MS) (p1 : Int32) (R : Int32 × MS) (hf : f_Md_unit md p1 = some R) (sz : Nat) : Met l y_Md_unit w_Md_unit rm_Md_unit (wrP (dC, dI) tC (w_Md_ h_md ad_md tC md) sz [.ref h_md, .int p1]) (wrQ (dC, dI) (w_Md_ h_md ad_md tC md) sz (fun r w => r = (some (.int R.1)) ∧ w = (w_Md_ h_md ad_md tC R.2))) 0 0 (va_A (w_Md_ h_md ad_md tC md) sz) := by
  refine Met.ofW (cc := c_Md_unit) (maxL := 2) (ret := (some (.boolean))) (by decide) rfl ?_
  intro p e s m args below meth c s₁ B hml hv
  obtain ⟨hav, hsz, hP, hK, hD0⟩ := hv
  have hx := B.exec
  have hb := B.bytes
  have hr := B.returns
  have hts : ∀ w ∈ gw, w.before args s = true := fun w h => atoms_spec (ws := w_Md_unit) B.pre w (List.mem_cons_of_mem _ h)
  have hown : s.vm.findClass RX9 = some m.cls := findClass_of_methodNamed B.named
  have hlocks := B.notSynchronized
  subst hsz
  have hD := hD0.self (sz := s.heap.size)
  obtain ⟨A, hAe⟩ : ∃ z, z = va_A (w_Md_ h_md ad_md tC md) s.heap.size := ⟨_, rfl⟩
  rw [← hAe] at hD
  have hA : ∀ q : Nat, s.heap.size ≤ q → A q := fun q h => by rw [hAe]; exact Or.inr h
  have hS : va_S A s.heap s.heap [] := va_S.rf
  refine q_w (R := rm_Md_unit) (fun Q hQ => ?_)
  refine en_w (av := [.ref h_md, .int p1]) hav (Nat.le_of_ble_eq_true rfl) (fun ls hl => ?_)
  have hl : lv_has ls 2 [(0, .ref h_md), (1, .int p1)] := hl
  unfold f_Md_unit at hf
  refine lv_iload_n hx hb d_Md_unit_0 rfl (lv_at hl 1 rfl) ?_
  refine lv_i2l (v := p1.toInt64) hx hb d_Md_unit_1 rfl ?_
  refine lv_ldc2 (v := 32) hx hb hown (hts _ kK_9_124) d_Md_unit_2 ?_
  refine lv_ldc2 (v := 126) hx hb hown (hts _ kK_9_126) d_Md_unit_5 ?_
  obtain ⟨q1, hq1, hf⟩ := op_b hf
  refine ro_go rfl (va_runS (As := [.long p1.toInt64, .long 32, .long 126]) (rest := []) ⟨hx, hb, hml, hown, hts⟩ (m_Md_isIn l dC dI tC p1.toInt64 32 126 q1 _  hq1) (cwS 3 hts (gd_S kM_9_128 kS_Md_isIn kZ_9 kC_Md_isIn) rfl rfl rfl (by decide +kernel) ⟨(Nat.le_of_ble_eq_true rfl), (Nat.le_of_ble_eq_true rfl)⟩) ⟨ro_blind, ro_pre hK⟩ rfl rfl hl.1 rfl (lv_room (Nat.le_of_ble_eq_true rfl)) d_Md_unit_8 ⟨(Nat.le_of_ble_eq_true rfl), (Nat.le_of_ble_eq_true rfl)⟩) ?_
  refine W.eq (g2 := F0 m 11 ls [.int q1]) rfl ?_
  refine lv_if_eq (tgt := 23) hx hb d_Md_unit_11 (by decide) (fun c2 => ?_) (fun c2 => ?_)
  · have hf := op_t hf c2
    refine lv_iconst (v := 0) hx hb d_Md_unit_23 (by decide) ?_
    obtain rfl := Option.some.inj hf
    subst hQ
    subst hAe
    exact W.zret (v := 0) (ty := .boolean) hx hb hr (by decide) (fun t ht hW => ⟨⟨_, _, rfl, ⟨rfl, rfl⟩, by rw [ht]; exact hP, hD⟩, hS.F ht⟩) hS.2.2 d_Md_unit_24
  · have hf := op_e hf c2
    refine lv_aload_n hx hb d_Md_unit_14 rfl (lv_at hl 0 rfl) ?_
    refine va_get (D := (dC, dI)) (ci := 9) (v := .int (md.1 0)) (C := RX9) (T := TX9) (N := 46) hx hb hts in_X9 hown hK hP 0 rfl rfl 1 (by decide) (hts _ kF_9_132) (fun _ h9 => h9) rfl d_Md_unit_15 ?_
    refine lv_bipush (v := 40) hx hb d_Md_unit_18 (by decide) ?_
    refine lv_icmp_ne (tgt := 25) hx hb d_Md_unit_20 (by decide) (fun c3 => ?_) (fun c3 => ?_)
    · have hf := op_e hf c3
      refine lv_aload_n hx hb d_Md_unit_25 rfl (lv_at hl 0 rfl) ?_
      refine va_get (D := (dC, dI)) (ci := 9) (v := .ref (ad_md 0)) (C := RX9) (T := TX9) (N := 46) hx hb hts in_X9 hown hK hP 0 rfl rfl 0 (by decide) (hts _ kF_9_7) (fun _ h9 => h9) rfl d_Md_unit_26 ?_
      refine lv_aload_n hx hb d_Md_unit_29 rfl (lv_at hl 0 rfl) ?_
      refine va_get (D := (dC, dI)) (ci := 9) (v := .int (md.1 0)) (C := RX9) (T := TX9) (N := 46) hx hb hts in_X9 hown hK hP 0 rfl rfl 1 (by decide) (hts _ kF_9_132) (fun _ h9 => h9) rfl d_Md_unit_30 ?_
      refine lv_iload_n hx hb d_Md_unit_33 rfl (lv_at hl 1 rfl) ?_
      obtain ⟨hi4, hf⟩ := op_if hf
      refine va_iast (f := md.2.1 0) hx hb hK hP hD hS 1 0 rfl rfl (ix_in hi4) d_Md_unit_34 (fun H locs hP hD hS => ?_)
      rw [wu_Md_a0] at hP hD
      obtain ⟨md5, hmd5, hf⟩ := op_b hf
      have hP : va_P (dC, dI) vwCl (w_Md_ h_md ad_md tC md5) H := by rw [← Option.some.inj hmd5]; exact hP
      have hD : va_D A (w_Md_ h_md ad_md tC md5) := by rw [← Option.some.inj hmd5]; exact hD
      refine lv_aload_n hx hb d_Md_unit_35 rfl (lv_at hl 0 rfl) ?_
      refine lv_dup hx hb d_Md_unit_36 rfl ?_
      refine va_get (D := (dC, dI)) (ci := 9) (v := .int (md5.1 0)) (C := RX9) (T := TX9) (N := 46) hx hb hts in_X9 hown hK hP 0 rfl rfl 1 (by decide) (hts _ kF_9_132) (fun _ h9 => h9) rfl d_Md_unit_37 ?_
      refine lv_iconst (v := 1) hx hb d_Md_unit_40 (by decide) ?_
      refine lv_iadd hx hb d_Md_unit_41 ?_
      refine va_put (D := (dC, dI)) (ci := 9) (v := .int ((md5.1 0) + 1)) (ty := .int) (C := RX9) (T := TX9) (N := 46) hx hb hts in_X9 tyX9 tyX9_ok nmX9 hown hK hP hD hS 0 (fs := [.ref (ad_md 0), .int (md5.1 0), .int (md5.1 1), .ref (ad_md 1), .ref (ad_md 2), .ref (ad_md 3), .int (md5.1 2), .ref (ad_md 4), .ref (ad_md 5), .ref (ad_md 6), .ref (ad_md 7), .ref (ad_md 8), .ref (ad_md 9), .ref (ad_md 10), .ref (ad_md 11), .ref (ad_md 12), .ref (ad_md 13), .ref (ad_md 14), .ref (ad_md 15), .int (md5.1 3), .ref (ad_md 16), .ref (ad_md 17), .ref (ad_md 18), .ref (ad_md 19), .ref (ad_md 20), .ref (ad_md 21), .ref (ad_md 22), .int (md5.1 4), .int (md5.1 5), .ref (ad_md 23), .ref (ad_md 24), .ref (ad_md 25), .ref (ad_md 26), .ref (ad_md 27), .int (md5.1 6), .int (md5.1 7), .int (md5.1 8), .ref (ad_md 28), .ref (ad_md 29), .ref (ad_md 30), .ref (ad_md 31), .ref (ad_md 32), .ref (ad_md 33), .ref (ad_md 34), .ref (ad_md 35), .int (md5.1 9)]) rfl rfl 1 (by decide) (hts _ kF_9_132) (fun _ h9 => h9) rfl (by decide +kernel) (rfl) (rfl) (Nat.le_of_ble_eq_true rfl) d_Md_unit_42 (fun H locs hP hD hS => ?_)
      rw [wu_Md_s0] at hP hD
      obtain ⟨md6, hmd6, hf⟩ := op_b hf
      have hP : va_P (dC, dI) vwCl (w_Md_ h_md ad_md tC md6) H := by rw [← Option.some.inj hmd6]; exact hP
      have hD : va_D A (w_Md_ h_md ad_md tC md6) := by rw [← Option.some.inj hmd6]; exact hD
      refine lv_iconst (v := 1) hx hb d_Md_unit_45 (by decide) ?_
      obtain rfl := Option.some.inj hf
      subst hQ
      subst hAe
      exact W.zret (v := 1) (ty := .boolean) hx hb hr (by decide) (fun t ht hW => ⟨⟨_, _, rfl, ⟨rfl, rfl⟩, by rw [ht]; exact hP, hD⟩, hS.F ht⟩) hS.2.2 d_Md_unit_46
    · have hf := op_t hf c3
      refine lv_iconst (v := 0) hx hb d_Md_unit_23 (by decide) ?_
      obtain rfl := Option.some.inj hf
      subst hQ
      subst hAe
      exact W.zret (v := 0) (ty := .boolean) hx hb hr (by decide) (fun t ht hW => ⟨⟨_, _, rfl, ⟨rfl, rfl⟩, by rw [ht]; exact hP, hD⟩, hS.F ht⟩) hS.2.2 d_Md_unit_24
def f_Md_bendOf (p1 : Int32) : Option (Int32) := (if p1 = 76 then some 1 else (if p1 = 82 then some 2 else (if p1 = 85 then some 3 else some 0)))
def rm_Md_bendOf : Room := { frames := 0, cells := 0, slots := 0, locals := 0 }
set_option maxHeartbeats 4000000 in
set_option maxRecDepth 100000 in
theorem m_Md_bendOf (l : Launch) (dC : Nat → ClassId) (dI : Nat → Nat → Nat) (tC : Nat → ClassId) (p1 : Int32) (R : Int32) (H : Heap) (hf : f_Md_bendOf p1 = some R) : Met l y_Md_bendOf w_Md_bendOf rm_Md_bendOf (roP (dC, dI) tC H [.int p1]) (roQ H (some (.int R))) 0 0 (fun _ => False) := by
  refine Met.ofW (cc := c_Md_bendOf) (maxL := 1) (ret := (some (.int))) (by decide) rfl ?_
  intro p e s m args below meth c s₁ B hml hv
  obtain ⟨hav, hH, hK⟩ := hv
  have hx := B.exec
  have hb := B.bytes
  have hr := B.returns
  have hts : ∀ w ∈ gw, w.before args s = true := fun w h => atoms_spec (ws := w_Md_bendOf) B.pre w (List.mem_cons_of_mem _ h)
  have hown : s.vm.findClass RX9 = some m.cls := findClass_of_methodNamed B.named
  have hlocks := B.notSynchronized
  subst hH
  refine q_w (R := rm_Md_bendOf) (fun Q hQ => ?_)
  refine en_w (av := [.int p1]) hav (Nat.le_of_ble_eq_true rfl) (fun ls hl => ?_)
  have hl : lv_has ls 1 [(0, .int p1)] := hl
  unfold f_Md_bendOf at hf
  refine lv_iload_n hx hb d_Md_bendOf_0 rfl (lv_at hl 0 rfl) ?_
  refine lv_bipush (v := 76) hx hb d_Md_bendOf_1 (by decide) ?_
  refine lv_icmp_ne (tgt := 10) hx hb d_Md_bendOf_3 (by decide) (fun c1 => ?_) (fun c1 => ?_)
  · have hf := op_e hf c1
    refine lv_iload_n hx hb d_Md_bendOf_10 rfl (lv_at hl 0 rfl) ?_
    refine lv_bipush (v := 82) hx hb d_Md_bendOf_11 (by decide) ?_
    refine lv_icmp_ne (tgt := 20) hx hb d_Md_bendOf_13 (by decide) (fun c2 => ?_) (fun c2 => ?_)
    · have hf := op_e hf c2
      refine lv_iload_n hx hb d_Md_bendOf_20 rfl (lv_at hl 0 rfl) ?_
      refine lv_bipush (v := 85) hx hb d_Md_bendOf_21 (by decide) ?_
      refine lv_icmp_ne (tgt := 30) hx hb d_Md_bendOf_23 (by decide) (fun c3 => ?_) (fun c3 => ?_)
      · have hf := op_e hf c3
        refine lv_iconst (v := 0) hx hb d_Md_bendOf_30 (by decide) ?_
        obtain rfl := Option.some.inj hf
        subst hQ
        exact W.iret (v := 0) hx hb hr (fun t ht hW => ⟨rfl, ht⟩) (fun q h => by cases h) d_Md_bendOf_31
      · have hf := op_t hf c3
        refine lv_iconst (v := 3) hx hb d_Md_bendOf_26 (by decide) ?_
        refine lv_goto (tgt := 31) hx hb d_Md_bendOf_27 (by decide) ?_
        obtain rfl := Option.some.inj hf
        subst hQ
        exact W.iret (v := 3) hx hb hr (fun t ht hW => ⟨rfl, ht⟩) (fun q h => by cases h) d_Md_bendOf_31
    · have hf := op_t hf c2
      refine lv_iconst (v := 2) hx hb d_Md_bendOf_16 (by decide) ?_
      refine lv_goto (tgt := 31) hx hb d_Md_bendOf_17 (by decide) ?_
      obtain rfl := Option.some.inj hf
      subst hQ
      exact W.iret (v := 2) hx hb hr (fun t ht hW => ⟨rfl, ht⟩) (fun q h => by cases h) d_Md_bendOf_31
  · have hf := op_t hf c1
    refine lv_iconst (v := 1) hx hb d_Md_bendOf_6 (by decide) ?_
    refine lv_goto (tgt := 31) hx hb d_Md_bendOf_7 (by decide) ?_
    obtain rfl := Option.some.inj hf
    subst hQ
    exact W.iret (v := 1) hx hb hr (fun t ht hW => ⟨rfl, ht⟩) (fun q h => by cases h) d_Md_bendOf_31
def l_Md_shape_14 : Nat → Int32 → Int32 → Int32 → MS → Option (Int32 × Int32)
  | 0, _, _, _, _ => none
  | n + 1, x1, x2, x3, md => (if x1 ≤ x2 then some (x2, x3) else (if x3 = 0 then some (x2, x3) else ((if (x2 - x2 / 2 * 2) = 0 then (if 6 ≤ (x2 / 2) then some (0) else if ix x2 40 then (if ((md.2.1 0) x2.toNatClampNeg) = (65 + (x2 / 2)) then some (1) else some (0)) else none) else if ix x2 40 then (f_Md_bendOf ((md.2.1 0) x2.toNatClampNeg)).bind fun q12 => (if q12 ≤ 0 then some (0) else some (1)) else none) : Option (Int32)).bind fun q7 => (if q7 = 0 then (some (x2 + 0) : Option Int32).bind fun v15 => l_Md_shape_14 n x1 v15 q7 md else (some (x2 + 1) : Option Int32).bind fun v16 => l_Md_shape_14 n x1 v16 q7 md)))
def l_Md_shape_133 : Nat → Int32 → Int32 → Int32 → Int32 → MS → Option (Int32 × MS)
  | 0, _, _, _, _, _ => none
  | n + 1, x1, x2, x3, x4, md => (if x1 ≤ x4 then some (x4, md) else if ix x4 40 then (f_Md_bendOf ((md.2.1 0) x4.toNatClampNeg)).bind fun q25 => if ix ((6 * (md.1 1)) + (x4 / 2)) 60 then (some (sA md 2 (upd (md.2.1 2) ((6 * (md.1 1)) + (x4 / 2)).toNatClampNeg q25))).bind fun md27 => l_Md_shape_133 n x1 x2 x3 (x4 + 2) md27 else none else none)
def f_Md_shape (md : MS) : Option (Int32 × MS) := (some (md.1 0) : Option Int32).bind fun v1 => (some (sI md 0 0)).bind fun md2 => (l_Md_shape_14 fu v1 0 1 md2).bind fun q3 => (if q3.2 = 0 then some ((-1) - q3.1, md2) else (if (v1 - v1 / 2 * 2) = 0 then some ((-1) - q3.1, md2) else (if (md2.1 1) = 10 then some ((-1) - q3.1, md2) else if ix (md2.1 1) 10 then (some (sA md2 1 (upd (md2.2.1 1) (md2.1 1).toNatClampNeg ((v1 + 1) / 2)))).bind fun md21 => (l_Md_shape_133 fu v1 q3.1 q3.2 1 md21).bind fun q22 => (some (sI q22.2 1 ((q22.2.1 1) + 1))).bind fun md28 => some ((md28.1 1) - 1, md28) else none)))
def rm_Md_shape : Room := { frames := 1, cells := 0, slots := 0, locals := 20 }
set_option maxHeartbeats 4000000 in
set_option maxRecDepth 100000 in
theorem m_Md_shape (l : Launch) (dC : Nat → ClassId) (dI : Nat → Nat → Nat) (tC : Nat → ClassId) (h_md : Nat) (ad_md : Nat → Nat) (md : MS) (R : Int32 × MS) (hf : f_Md_shape md = some R) (sz : Nat) : Met l y_Md_shape w_Md_shape rm_Md_shape (wrP (dC, dI) tC (w_Md_ h_md ad_md tC md) sz [.ref h_md]) (wrQ (dC, dI) (w_Md_ h_md ad_md tC md) sz (fun r w => r = (some (.int R.1)) ∧ w = (w_Md_ h_md ad_md tC R.2))) 0 0 (va_A (w_Md_ h_md ad_md tC md) sz) := by
  refine Met.ofW (cc := c_Md_shape) (maxL := 5) (ret := (some (.int))) (by decide) rfl ?_
  intro p e s m args below meth c s₁ B hml hv
  obtain ⟨hav, hsz, hP, hK, hD0⟩ := hv
  have hx := B.exec
  have hb := B.bytes
  have hr := B.returns
  have hts : ∀ w ∈ gw, w.before args s = true := fun w h => atoms_spec (ws := w_Md_shape) B.pre w (List.mem_cons_of_mem _ h)
  have hown : s.vm.findClass RX9 = some m.cls := findClass_of_methodNamed B.named
  have hlocks := B.notSynchronized
  subst hsz
  have hD := hD0.self (sz := s.heap.size)
  obtain ⟨A, hAe⟩ : ∃ z, z = va_A (w_Md_ h_md ad_md tC md) s.heap.size := ⟨_, rfl⟩
  rw [← hAe] at hD
  have hA : ∀ q : Nat, s.heap.size ≤ q → A q := fun q h => by rw [hAe]; exact Or.inr h
  have hS : va_S A s.heap s.heap [] := va_S.rf
  refine q_w (R := rm_Md_shape) (fun Q hQ => ?_)
  refine en_w (av := [.ref h_md]) hav (Nat.le_of_ble_eq_true rfl) (fun ls hl => ?_)
  have hl : lv_has ls 5 [(0, .ref h_md)] := hl
  unfold f_Md_shape at hf
  refine lv_aload_n hx hb d_Md_shape_0 rfl (lv_at hl 0 rfl) ?_
  refine va_get (D := (dC, dI)) (ci := 9) (v := .int (md.1 0)) (C := RX9) (T := TX9) (N := 46) hx hb hts in_X9 hown hK hP 0 rfl rfl 1 (by decide) (hts _ kF_9_132) (fun _ h9 => h9) rfl d_Md_shape_1 ?_
  obtain ⟨v1, hv1, hf⟩ := op_b hf
  refine rw_i (y := v1) (Option.some.inj hv1) ?_
  refine lv_istore_n (lv' := [(1, .int v1), (0, .ref h_md)]) hx hb d_Md_shape_4 rfl hl (by decide) rfl (fun ls hl => ?_)
  refine lv_aload_n hx hb d_Md_shape_5 rfl (lv_at hl 1 rfl) ?_
  refine lv_iconst (v := 0) hx hb d_Md_shape_6 (by decide) ?_
  refine va_put (D := (dC, dI)) (ci := 9) (v := .int 0) (ty := .int) (C := RX9) (T := TX9) (N := 46) hx hb hts in_X9 tyX9 tyX9_ok nmX9 hown hK hP hD hS 0 (fs := [.ref (ad_md 0), .int (md.1 0), .int (md.1 1), .ref (ad_md 1), .ref (ad_md 2), .ref (ad_md 3), .int (md.1 2), .ref (ad_md 4), .ref (ad_md 5), .ref (ad_md 6), .ref (ad_md 7), .ref (ad_md 8), .ref (ad_md 9), .ref (ad_md 10), .ref (ad_md 11), .ref (ad_md 12), .ref (ad_md 13), .ref (ad_md 14), .ref (ad_md 15), .int (md.1 3), .ref (ad_md 16), .ref (ad_md 17), .ref (ad_md 18), .ref (ad_md 19), .ref (ad_md 20), .ref (ad_md 21), .ref (ad_md 22), .int (md.1 4), .int (md.1 5), .ref (ad_md 23), .ref (ad_md 24), .ref (ad_md 25), .ref (ad_md 26), .ref (ad_md 27), .int (md.1 6), .int (md.1 7), .int (md.1 8), .ref (ad_md 28), .ref (ad_md 29), .ref (ad_md 30), .ref (ad_md 31), .ref (ad_md 32), .ref (ad_md 33), .ref (ad_md 34), .ref (ad_md 35), .int (md.1 9)]) rfl rfl 1 (by decide) (hts _ kF_9_132) (fun _ h9 => h9) rfl (by decide +kernel) (rfl) (rfl) (Nat.le_of_ble_eq_true rfl) d_Md_shape_7 (fun H locs hP hD hS => ?_)
  rw [wu_Md_s0] at hP hD
  obtain ⟨md2, hmd2, hf⟩ := op_b hf
  have hP : va_P (dC, dI) vwCl (w_Md_ h_md ad_md tC md2) H := by rw [← Option.some.inj hmd2]; exact hP
  have hD : va_D A (w_Md_ h_md ad_md tC md2) := by rw [← Option.some.inj hmd2]; exact hD
  refine lv_iconst (v := 0) hx hb d_Md_shape_10 (by decide) ?_
  refine lv_istore_n (lv' := [(2, .int 0), (1, .int v1), (0, .ref h_md)]) hx hb d_Md_shape_11 rfl hl (by decide) rfl (fun ls hl => ?_)
  refine lv_iconst (v := 1) hx hb d_Md_shape_12 (by decide) ?_
  refine lv_istore_n (lv' := [(3, .int 1), (2, .int 0), (1, .int v1), (0, .ref h_md)]) hx hb d_Md_shape_13 rfl hl (by decide) rfl (fun ls hl => ?_)
  have lp_14 : ∀ (n : Nat) (x1 : Int32) (x2 : Int32) (x3 : Int32) (md : MS) (Rl : Int32 × Int32), l_Md_shape_14 n x1 x2 x3 md = some Rl → ∀ (H : Heap) (locs : List Loc), va_P (dC, dI) vwCl (w_Md_ h_md ad_md tC md) H → va_D A (w_Md_ h_md ad_md tC md) → va_S A s.heap H locs → ∀ ls : Array Slot, lv_has ls 5 [(3, .int x3), (2, .int x2), (1, .int x1), (0, .ref h_md)] → (∀ (H : Heap) (locs : List Loc), va_P (dC, dI) vwCl (w_Md_ h_md ad_md tC md) H → va_D A (w_Md_ h_md ad_md tC md) → va_S A s.heap H locs → ∀ ls : Array Slot, lv_has ls 5 [(3, .int Rl.2), (2, .int Rl.1), (1, .int x1), (0, .ref h_md)] → W p l e rm_Md_shape s m args below meth c H locs 0 0 Q (F0 m 93 ls [])) → W p l e rm_Md_shape s m args below meth c H locs 0 0 Q (F0 m 14 ls []) := by
    intro n
    induction n with
    | zero => intro x1 x2 x3 md Rl hf; cases hf
    | succ n ih_14 =>
      intro x1 x2 x3 md Rl hf H locs hP hD hS ls hl Kk
      rw [l_Md_shape_14] at hf
      refine lv_iload_n hx hb d_Md_shape_14 rfl (lv_at hl 1 rfl) ?_
      refine lv_iload_n hx hb d_Md_shape_15 rfl (lv_at hl 2 rfl) ?_
      refine lv_icmp_ge (tgt := 93) hx hb d_Md_shape_16 (by decide) (fun c4 => ?_) (fun c4 => ?_)
      · have hf := op_t hf c4
        obtain rfl := Option.some.inj hf
        exact Kk _ _ hP hD hS _ (lv_sub hl [0, 1, 2, 3] rfl)
      · have hf := op_e hf c4
        refine lv_iload_n hx hb d_Md_shape_19 rfl (lv_at hl 0 rfl) ?_
        refine lv_if_eq (tgt := 93) hx hb d_Md_shape_20 (by decide) (fun c5 => ?_) (fun c5 => ?_)
        · have hf := op_t hf c5
          obtain rfl := Option.some.inj hf
          exact Kk _ _ hP hD hS _ (lv_sub hl [0, 1, 2, 3] rfl)
        · have hf := op_e hf c5
          refine lv_iload_n hx hb d_Md_shape_23 rfl (lv_at hl 1 rfl) ?_
          refine lv_iconst (v := 2) hx hb d_Md_shape_24 (by decide) ?_
          refine lv_irem hx hb d_Md_shape_25 (by decide) ?_
          obtain ⟨q7, hq7, hf⟩ := op_b hf
          have J_26 : ∀ (H : Heap) (locs : List Loc), va_P (dC, dI) vwCl (w_Md_ h_md ad_md tC md) H → va_D A (w_Md_ h_md ad_md tC md) → va_S A s.heap H locs → ∀ ls : Array Slot, lv_has ls 5 [(3, .int x3), (2, .int x2), (1, .int x1), (0, .ref h_md)] → W p l e rm_Md_shape s m args below meth c H locs 0 0 Q (F0 m 77 ls [.int q7]) := by
            intro H locs hP hD hS ls hl
            refine lv_istore_n (lv' := [(3, .int q7), (2, .int x2), (1, .int x1), (0, .ref h_md)]) hx hb d_Md_shape_77 rfl hl (by decide) rfl (fun ls hl => ?_)
            refine lv_iload_n hx hb d_Md_shape_78 rfl (lv_at hl 1 rfl) ?_
            refine lv_iload_n hx hb d_Md_shape_79 rfl (lv_at hl 0 rfl) ?_
            refine lv_if_eq (tgt := 87) hx hb d_Md_shape_80 (by decide) (fun c14 => ?_) (fun c14 => ?_)
            · have hf := op_t hf c14
              refine lv_iconst (v := 0) hx hb d_Md_shape_87 (by decide) ?_
              refine lv_iadd hx hb d_Md_shape_88 ?_
              obtain ⟨v15, hv15, hf⟩ := op_b hf
              refine rw_i (y := v15) (Option.some.inj hv15) ?_
              refine lv_istore_n (lv' := [(2, .int v15), (3, .int q7), (1, .int x1), (0, .ref h_md)]) hx hb d_Md_shape_89 rfl hl (by decide) rfl (fun ls hl => ?_)
              refine lv_goto (tgt := 14) hx hb d_Md_shape_90 (by decide) ?_
              exact ih_14 x1 v15 q7 md Rl hf _ _ hP hD hS _ (lv_sub hl [1, 0, 2, 3] rfl) Kk
            · have hf := op_e hf c14
              refine lv_iconst (v := 1) hx hb d_Md_shape_83 (by decide) ?_
              refine lv_goto (tgt := 88) hx hb d_Md_shape_84 (by decide) ?_
              refine lv_iadd hx hb d_Md_shape_88 ?_
              obtain ⟨v16, hv16, hf⟩ := op_b hf
              refine rw_i (y := v16) (Option.some.inj hv16) ?_
              refine lv_istore_n (lv' := [(2, .int v16), (3, .int q7), (1, .int x1), (0, .ref h_md)]) hx hb d_Md_shape_89 rfl hl (by decide) rfl (fun ls hl => ?_)
              refine lv_goto (tgt := 14) hx hb d_Md_shape_90 (by decide) ?_
              exact ih_14 x1 v16 q7 md Rl hf _ _ hP hD hS _ (lv_sub hl [1, 0, 2, 3] rfl) Kk
          clear hf
          have hf := hq7
          clear hq7
          refine lv_if_ne (tgt := 60) hx hb d_Md_shape_26 (by decide) (fun c6 => ?_) (fun c6 => ?_)
          · have hf := op_e hf c6
            refine lv_aload_n hx hb d_Md_shape_60 rfl (lv_at hl 3 rfl) ?_
            refine va_get (D := (dC, dI)) (ci := 9) (v := .ref (ad_md 0)) (C := RX9) (T := TX9) (N := 46) hx hb hts in_X9 hown hK hP 0 rfl rfl 0 (by decide) (hts _ kF_9_7) (fun _ h9 => h9) rfl d_Md_shape_61 ?_
            refine lv_iload_n hx hb d_Md_shape_64 rfl (lv_at hl 1 rfl) ?_
            obtain ⟨hi11, hf⟩ := op_if hf
            refine va_iald (f := md.2.1 0) hx hb hK hP 1 0 rfl rfl (ix_in hi11) d_Md_shape_65 ?_
            obtain ⟨q12, hq12, hf⟩ := op_b hf
            refine ro_go rfl (va_runS (As := [.int ((md.2.1 0) x2.toNatClampNeg)]) (rest := []) ⟨hx, hb, hml, hown, hts⟩ (m_Md_bendOf l dC dI tC ((md.2.1 0) x2.toNatClampNeg) q12 _  hq12) (cwS 1 hts (gd_S kM_9_135 kS_Md_bendOf kZ_9 kC_Md_bendOf) rfl rfl rfl (by decide +kernel) ⟨(Nat.le_of_ble_eq_true rfl), (Nat.le_of_ble_eq_true rfl)⟩) ⟨ro_blind, ro_pre hK⟩ rfl rfl hl.1 rfl (lv_room (Nat.le_of_ble_eq_true rfl)) d_Md_shape_66 ⟨(Nat.le_of_ble_eq_true rfl), (Nat.le_of_ble_eq_true rfl)⟩) ?_
            refine W.eq (g2 := F0 m 69 ls [.int q12]) rfl ?_
            refine lv_if_le (tgt := 76) hx hb d_Md_shape_69 (by decide) (fun c13 => ?_) (fun c13 => ?_)
            · have hf := op_t hf c13
              refine lv_iconst (v := 0) hx hb d_Md_shape_76 (by decide) ?_
              obtain rfl := Option.some.inj hf
              exact J_26 _ _ hP hD hS _ (lv_sub hl [0, 1, 2, 3] rfl)
            · have hf := op_e hf c13
              refine lv_iconst (v := 1) hx hb d_Md_shape_72 (by decide) ?_
              refine lv_goto (tgt := 77) hx hb d_Md_shape_73 (by decide) ?_
              obtain rfl := Option.some.inj hf
              exact J_26 _ _ hP hD hS _ (lv_sub hl [0, 1, 2, 3] rfl)
          · have hf := op_t hf c6
            refine lv_iload_n hx hb d_Md_shape_29 rfl (lv_at hl 1 rfl) ?_
            refine lv_iconst (v := 2) hx hb d_Md_shape_30 (by decide) ?_
            refine lv_idiv hx hb d_Md_shape_31 (by decide) ?_
            refine lv_bipush (v := 6) hx hb d_Md_shape_32 (by decide) ?_
            refine lv_icmp_ge (tgt := 56) hx hb d_Md_shape_34 (by decide) (fun c8 => ?_) (fun c8 => ?_)
            · have hf := op_t hf c8
              refine lv_iconst (v := 0) hx hb d_Md_shape_56 (by decide) ?_
              refine lv_goto (tgt := 77) hx hb d_Md_shape_57 (by decide) ?_
              obtain rfl := Option.some.inj hf
              exact J_26 _ _ hP hD hS _ (lv_sub hl [0, 1, 2, 3] rfl)
            · have hf := op_e hf c8
              refine lv_aload_n hx hb d_Md_shape_37 rfl (lv_at hl 3 rfl) ?_
              refine va_get (D := (dC, dI)) (ci := 9) (v := .ref (ad_md 0)) (C := RX9) (T := TX9) (N := 46) hx hb hts in_X9 hown hK hP 0 rfl rfl 0 (by decide) (hts _ kF_9_7) (fun _ h9 => h9) rfl d_Md_shape_38 ?_
              refine lv_iload_n hx hb d_Md_shape_41 rfl (lv_at hl 1 rfl) ?_
              obtain ⟨hi9, hf⟩ := op_if hf
              refine va_iald (f := md.2.1 0) hx hb hK hP 1 0 rfl rfl (ix_in hi9) d_Md_shape_42 ?_
              refine lv_bipush (v := 65) hx hb d_Md_shape_43 (by decide) ?_
              refine lv_iload_n hx hb d_Md_shape_45 rfl (lv_at hl 1 rfl) ?_
              refine lv_iconst (v := 2) hx hb d_Md_shape_46 (by decide) ?_
              refine lv_idiv hx hb d_Md_shape_47 (by decide) ?_
              refine lv_iadd hx hb d_Md_shape_48 ?_
              refine lv_icmp_ne (tgt := 56) hx hb d_Md_shape_49 (by decide) (fun c10 => ?_) (fun c10 => ?_)
              · have hf := op_e hf c10
                refine lv_iconst (v := 0) hx hb d_Md_shape_56 (by decide) ?_
                refine lv_goto (tgt := 77) hx hb d_Md_shape_57 (by decide) ?_
                obtain rfl := Option.some.inj hf
                exact J_26 _ _ hP hD hS _ (lv_sub hl [0, 1, 2, 3] rfl)
              · have hf := op_t hf c10
                refine lv_iconst (v := 1) hx hb d_Md_shape_52 (by decide) ?_
                refine lv_goto (tgt := 77) hx hb d_Md_shape_53 (by decide) ?_
                obtain rfl := Option.some.inj hf
                exact J_26 _ _ hP hD hS _ (lv_sub hl [0, 1, 2, 3] rfl)
  obtain ⟨q3, hq3, hf⟩ := op_b hf
  refine lp_14 fu v1 0 1 md2 q3 hq3 _ _ hP hD hS _ (lv_sub hl [0, 1, 2, 3] rfl) ?_
  intro H locs hP hD hS ls hl
  refine lv_iload_n hx hb d_Md_shape_93 rfl (lv_at hl 0 rfl) ?_
  refine lv_if_eq (tgt := 112) hx hb d_Md_shape_94 (by decide) (fun c17 => ?_) (fun c17 => ?_)
  · have hf := op_t hf c17
    refine lv_iconst (v := (-1)) hx hb d_Md_shape_112 (by decide) ?_
    refine lv_iload_n hx hb d_Md_shape_113 rfl (lv_at hl 1 rfl) ?_
    refine lv_isub hx hb d_Md_shape_114 ?_
    obtain rfl := Option.some.inj hf
    subst hQ
    subst hAe
    exact W.iret (v := (-1) - q3.1) hx hb hr (fun t ht hW => ⟨⟨_, _, rfl, ⟨rfl, rfl⟩, by rw [ht]; exact hP, hD⟩, hS.F ht⟩) hS.2.2 d_Md_shape_115
  · have hf := op_e hf c17
    refine lv_iload_n hx hb d_Md_shape_97 rfl (lv_at hl 2 rfl) ?_
    refine lv_iconst (v := 2) hx hb d_Md_shape_98 (by decide) ?_
    refine lv_irem hx hb d_Md_shape_99 (by decide) ?_
    refine lv_if_eq (tgt := 112) hx hb d_Md_shape_100 (by decide) (fun c18 => ?_) (fun c18 => ?_)
    · have hf := op_t hf c18
      refine lv_iconst (v := (-1)) hx hb d_Md_shape_112 (by decide) ?_
      refine lv_iload_n hx hb d_Md_shape_113 rfl (lv_at hl 1 rfl) ?_
      refine lv_isub hx hb d_Md_shape_114 ?_
      obtain rfl := Option.some.inj hf
      subst hQ
      subst hAe
      exact W.iret (v := (-1) - q3.1) hx hb hr (fun t ht hW => ⟨⟨_, _, rfl, ⟨rfl, rfl⟩, by rw [ht]; exact hP, hD⟩, hS.F ht⟩) hS.2.2 d_Md_shape_115
    · have hf := op_e hf c18
      refine lv_aload_n hx hb d_Md_shape_103 rfl (lv_at hl 3 rfl) ?_
      refine va_get (D := (dC, dI)) (ci := 9) (v := .int (md2.1 1)) (C := RX9) (T := TX9) (N := 46) hx hb hts in_X9 hown hK hP 0 rfl rfl 2 (by decide) (hts _ kF_9_139) (fun _ h9 => h9) rfl d_Md_shape_104 ?_
      refine lv_bipush (v := 10) hx hb d_Md_shape_107 (by decide) ?_
      refine lv_icmp_ne (tgt := 116) hx hb d_Md_shape_109 (by decide) (fun c19 => ?_) (fun c19 => ?_)
      · have hf := op_e hf c19
        refine lv_aload_n hx hb d_Md_shape_116 rfl (lv_at hl 3 rfl) ?_
        refine va_get (D := (dC, dI)) (ci := 9) (v := .ref (ad_md 1)) (C := RX9) (T := TX9) (N := 46) hx hb hts in_X9 hown hK hP 0 rfl rfl 3 (by decide) (hts _ kF_9_13) (fun _ h9 => h9) rfl d_Md_shape_117 ?_
        refine lv_aload_n hx hb d_Md_shape_120 rfl (lv_at hl 3 rfl) ?_
        refine va_get (D := (dC, dI)) (ci := 9) (v := .int (md2.1 1)) (C := RX9) (T := TX9) (N := 46) hx hb hts in_X9 hown hK hP 0 rfl rfl 2 (by decide) (hts _ kF_9_139) (fun _ h9 => h9) rfl d_Md_shape_121 ?_
        refine lv_iload_n hx hb d_Md_shape_124 rfl (lv_at hl 2 rfl) ?_
        refine lv_iconst (v := 1) hx hb d_Md_shape_125 (by decide) ?_
        refine lv_iadd hx hb d_Md_shape_126 ?_
        refine lv_iconst (v := 2) hx hb d_Md_shape_127 (by decide) ?_
        refine lv_idiv hx hb d_Md_shape_128 (by decide) ?_
        obtain ⟨hi20, hf⟩ := op_if hf
        refine va_iast (f := md2.2.1 1) hx hb hK hP hD hS 2 0 rfl rfl (ix_in hi20) d_Md_shape_129 (fun H locs hP hD hS => ?_)
        rw [wu_Md_a1] at hP hD
        obtain ⟨md21, hmd21, hf⟩ := op_b hf
        have hP : va_P (dC, dI) vwCl (w_Md_ h_md ad_md tC md21) H := by rw [← Option.some.inj hmd21]; exact hP
        have hD : va_D A (w_Md_ h_md ad_md tC md21) := by rw [← Option.some.inj hmd21]; exact hD
        refine lv_iconst (v := 1) hx hb d_Md_shape_130 (by decide) ?_
        refine lv_istore (lv' := [(4, .int 1), (3, .int q3.2), (2, .int q3.1), (1, .int v1), (0, .ref h_md)]) hx hb d_Md_shape_131 hl (by decide) rfl (fun ls hl => ?_)
        have lp_133 : ∀ (n : Nat) (x1 : Int32) (x2 : Int32) (x3 : Int32) (x4 : Int32) (md : MS) (Rl : Int32 × MS), l_Md_shape_133 n x1 x2 x3 x4 md = some Rl → ∀ (H : Heap) (locs : List Loc), va_P (dC, dI) vwCl (w_Md_ h_md ad_md tC md) H → va_D A (w_Md_ h_md ad_md tC md) → va_S A s.heap H locs → ∀ ls : Array Slot, lv_has ls 5 [(4, .int x4), (3, .int x3), (2, .int x2), (1, .int x1), (0, .ref h_md)] → (∀ (H : Heap) (locs : List Loc), va_P (dC, dI) vwCl (w_Md_ h_md ad_md tC Rl.2) H → va_D A (w_Md_ h_md ad_md tC Rl.2) → va_S A s.heap H locs → ∀ ls : Array Slot, lv_has ls 5 [(4, .int Rl.1), (3, .int x3), (2, .int x2), (1, .int x1), (0, .ref h_md)] → W p l e rm_Md_shape s m args below meth c H locs 0 0 Q (F0 m 172 ls [])) → W p l e rm_Md_shape s m args below meth c H locs 0 0 Q (F0 m 133 ls []) := by
          intro n
          induction n with
          | zero => intro x1 x2 x3 x4 md Rl hf; cases hf
          | succ n ih_133 =>
            intro x1 x2 x3 x4 md Rl hf H locs hP hD hS ls hl Kk
            rw [l_Md_shape_133] at hf
            refine lv_iload hx hb d_Md_shape_133 (lv_at hl 0 rfl) ?_
            refine lv_iload_n hx hb d_Md_shape_135 rfl (lv_at hl 3 rfl) ?_
            refine lv_icmp_ge (tgt := 172) hx hb d_Md_shape_136 (by decide) (fun c23 => ?_) (fun c23 => ?_)
            · have hf := op_t hf c23
              obtain rfl := Option.some.inj hf
              exact Kk _ _ hP hD hS _ (lv_sub hl [0, 1, 2, 3, 4] rfl)
            · have hf := op_e hf c23
              refine lv_aload_n hx hb d_Md_shape_139 rfl (lv_at hl 4 rfl) ?_
              refine va_get (D := (dC, dI)) (ci := 9) (v := .ref (ad_md 2)) (C := RX9) (T := TX9) (N := 46) hx hb hts in_X9 hown hK hP 0 rfl rfl 4 (by decide) (hts _ kF_9_16) (fun _ h9 => h9) rfl d_Md_shape_140 ?_
              refine lv_bipush (v := 6) hx hb d_Md_shape_143 (by decide) ?_
              refine lv_aload_n hx hb d_Md_shape_145 rfl (lv_at hl 4 rfl) ?_
              refine va_get (D := (dC, dI)) (ci := 9) (v := .int (md.1 1)) (C := RX9) (T := TX9) (N := 46) hx hb hts in_X9 hown hK hP 0 rfl rfl 2 (by decide) (hts _ kF_9_139) (fun _ h9 => h9) rfl d_Md_shape_146 ?_
              refine lv_imul hx hb d_Md_shape_149 ?_
              refine lv_iload hx hb d_Md_shape_150 (lv_at hl 0 rfl) ?_
              refine lv_iconst (v := 2) hx hb d_Md_shape_152 (by decide) ?_
              refine lv_idiv hx hb d_Md_shape_153 (by decide) ?_
              refine lv_iadd hx hb d_Md_shape_154 ?_
              refine lv_aload_n hx hb d_Md_shape_155 rfl (lv_at hl 4 rfl) ?_
              refine va_get (D := (dC, dI)) (ci := 9) (v := .ref (ad_md 0)) (C := RX9) (T := TX9) (N := 46) hx hb hts in_X9 hown hK hP 0 rfl rfl 0 (by decide) (hts _ kF_9_7) (fun _ h9 => h9) rfl d_Md_shape_156 ?_
              refine lv_iload hx hb d_Md_shape_159 (lv_at hl 0 rfl) ?_
              obtain ⟨hi24, hf⟩ := op_if hf
              refine va_iald (f := md.2.1 0) hx hb hK hP 1 0 rfl rfl (ix_in hi24) d_Md_shape_161 ?_
              obtain ⟨q25, hq25, hf⟩ := op_b hf
              refine ro_go rfl (va_runS (As := [.int ((md.2.1 0) x4.toNatClampNeg)]) (rest := [.int ((6 * (md.1 1)) + (x4 / 2)), .ref (ad_md 2)]) ⟨hx, hb, hml, hown, hts⟩ (m_Md_bendOf l dC dI tC ((md.2.1 0) x4.toNatClampNeg) q25 _  hq25) (cwS 1 hts (gd_S kM_9_135 kS_Md_bendOf kZ_9 kC_Md_bendOf) rfl rfl rfl (by decide +kernel) ⟨(Nat.le_of_ble_eq_true rfl), (Nat.le_of_ble_eq_true rfl)⟩) ⟨ro_blind, ro_pre hK⟩ rfl rfl hl.1 rfl (lv_room (Nat.le_of_ble_eq_true rfl)) d_Md_shape_162 ⟨(Nat.le_of_ble_eq_true rfl), (Nat.le_of_ble_eq_true rfl)⟩) ?_
              refine W.eq (g2 := F0 m 165 ls [.int q25, .int ((6 * (md.1 1)) + (x4 / 2)), .ref (ad_md 2)]) rfl ?_
              obtain ⟨hi26, hf⟩ := op_if hf
              refine va_iast (f := md.2.1 2) hx hb hK hP hD hS 3 0 rfl rfl (ix_in hi26) d_Md_shape_165 (fun H locs hP hD hS => ?_)
              rw [wu_Md_a2] at hP hD
              obtain ⟨md27, hmd27, hf⟩ := op_b hf
              have hP : va_P (dC, dI) vwCl (w_Md_ h_md ad_md tC md27) H := by rw [← Option.some.inj hmd27]; exact hP
              have hD : va_D A (w_Md_ h_md ad_md tC md27) := by rw [← Option.some.inj hmd27]; exact hD
              refine lv_iinc (v := x4 + 2) (lv' := [(4, .int (x4 + 2)), (3, .int x3), (2, .int x2), (1, .int x1), (0, .ref h_md)]) hx hb d_Md_shape_166 hl (k := 0) rfl rfl (by decide) rfl (fun ls hl => ?_)
              refine lv_goto (tgt := 133) hx hb d_Md_shape_169 (by decide) ?_
              exact ih_133 x1 x2 x3 (x4 + 2) md27 Rl hf _ _ hP hD hS _ (lv_sub hl [0, 1, 2, 3, 4] rfl) Kk
        obtain ⟨q22, hq22, hf⟩ := op_b hf
        refine lp_133 fu v1 q3.1 q3.2 1 md21 q22 hq22 _ _ hP hD hS _ (lv_sub hl [0, 1, 2, 3, 4] rfl) ?_
        intro H locs hP hD hS ls hl
        refine lv_aload_n hx hb d_Md_shape_172 rfl (lv_at hl 4 rfl) ?_
        refine lv_dup hx hb d_Md_shape_173 rfl ?_
        refine va_get (D := (dC, dI)) (ci := 9) (v := .int (q22.2.1 1)) (C := RX9) (T := TX9) (N := 46) hx hb hts in_X9 hown hK hP 0 rfl rfl 2 (by decide) (hts _ kF_9_139) (fun _ h9 => h9) rfl d_Md_shape_174 ?_
        refine lv_iconst (v := 1) hx hb d_Md_shape_177 (by decide) ?_
        refine lv_iadd hx hb d_Md_shape_178 ?_
        refine va_put (D := (dC, dI)) (ci := 9) (v := .int ((q22.2.1 1) + 1)) (ty := .int) (C := RX9) (T := TX9) (N := 46) hx hb hts in_X9 tyX9 tyX9_ok nmX9 hown hK hP hD hS 0 (fs := [.ref (ad_md 0), .int (q22.2.1 0), .int (q22.2.1 1), .ref (ad_md 1), .ref (ad_md 2), .ref (ad_md 3), .int (q22.2.1 2), .ref (ad_md 4), .ref (ad_md 5), .ref (ad_md 6), .ref (ad_md 7), .ref (ad_md 8), .ref (ad_md 9), .ref (ad_md 10), .ref (ad_md 11), .ref (ad_md 12), .ref (ad_md 13), .ref (ad_md 14), .ref (ad_md 15), .int (q22.2.1 3), .ref (ad_md 16), .ref (ad_md 17), .ref (ad_md 18), .ref (ad_md 19), .ref (ad_md 20), .ref (ad_md 21), .ref (ad_md 22), .int (q22.2.1 4), .int (q22.2.1 5), .ref (ad_md 23), .ref (ad_md 24), .ref (ad_md 25), .ref (ad_md 26), .ref (ad_md 27), .int (q22.2.1 6), .int (q22.2.1 7), .int (q22.2.1 8), .ref (ad_md 28), .ref (ad_md 29), .ref (ad_md 30), .ref (ad_md 31), .ref (ad_md 32), .ref (ad_md 33), .ref (ad_md 34), .ref (ad_md 35), .int (q22.2.1 9)]) rfl rfl 2 (by decide) (hts _ kF_9_139) (fun _ h9 => h9) rfl (by decide +kernel) (rfl) (rfl) (Nat.le_of_ble_eq_true rfl) d_Md_shape_179 (fun H locs hP hD hS => ?_)
        rw [wu_Md_s1] at hP hD
        obtain ⟨md28, hmd28, hf⟩ := op_b hf
        have hP : va_P (dC, dI) vwCl (w_Md_ h_md ad_md tC md28) H := by rw [← Option.some.inj hmd28]; exact hP
        have hD : va_D A (w_Md_ h_md ad_md tC md28) := by rw [← Option.some.inj hmd28]; exact hD
        refine lv_aload_n hx hb d_Md_shape_182 rfl (lv_at hl 4 rfl) ?_
        refine va_get (D := (dC, dI)) (ci := 9) (v := .int (md28.1 1)) (C := RX9) (T := TX9) (N := 46) hx hb hts in_X9 hown hK hP 0 rfl rfl 2 (by decide) (hts _ kF_9_139) (fun _ h9 => h9) rfl d_Md_shape_183 ?_
        refine lv_iconst (v := 1) hx hb d_Md_shape_186 (by decide) ?_
        refine lv_isub hx hb d_Md_shape_187 ?_
        obtain rfl := Option.some.inj hf
        subst hQ
        subst hAe
        exact W.iret (v := (md28.1 1) - 1) hx hb hr (fun t ht hW => ⟨⟨_, _, rfl, ⟨rfl, rfl⟩, by rw [ht]; exact hP, hD⟩, hS.F ht⟩) hS.2.2 d_Md_shape_188
      · have hf := op_t hf c19
        refine lv_iconst (v := (-1)) hx hb d_Md_shape_112 (by decide) ?_
        refine lv_iload_n hx hb d_Md_shape_113 rfl (lv_at hl 1 rfl) ?_
        refine lv_isub hx hb d_Md_shape_114 ?_
        obtain rfl := Option.some.inj hf
        subst hQ
        subst hAe
        exact W.iret (v := (-1) - q3.1) hx hb hr (fun t ht hW => ⟨⟨_, _, rfl, ⟨rfl, rfl⟩, by rw [ht]; exact hP, hD⟩, hS.F ht⟩) hS.2.2 d_Md_shape_115
def f_Md_rule (md : MS) (p1 : Int32) (p2 : Int64) : Option (Int32 × MS) := (f_Md_isIn p1.toInt64 4 40).bind fun q1 => (if q1 = 0 then some (0, md) else (f_Md_isIn p2 0 500).bind fun q3 => (if q3 = 0 then some (0, md) else if ix p1 41 then (some (sL md 0 (vp_updL (md.2.2 0) p1.toNatClampNeg p2))).bind fun md6 => (some (sI md6 4 0)).bind fun md7 => some (1, md7) else none))
def rm_Md_rule : Room := { frames := 1, cells := 0, slots := 0, locals := 25 }
set_option maxHeartbeats 4000000 in
set_option maxRecDepth 100000 in
theorem m_Md_rule (l : Launch) (dC : Nat → ClassId) (dI : Nat → Nat → Nat) (tC : Nat → ClassId) (h_md : Nat) (ad_md : Nat → Nat) (md : MS) (p1 : Int32) (p2 : Int64) (R : Int32 × MS) (hf : f_Md_rule md p1 p2 = some R) (sz : Nat) : Met l y_Md_rule w_Md_rule rm_Md_rule (wrP (dC, dI) tC (w_Md_ h_md ad_md tC md) sz [.ref h_md, .int p1, .long p2]) (wrQ (dC, dI) (w_Md_ h_md ad_md tC md) sz (fun r w => r = (some (.int R.1)) ∧ w = (w_Md_ h_md ad_md tC R.2))) 0 0 (va_A (w_Md_ h_md ad_md tC md) sz) := by
  refine Met.ofW (cc := c_Md_rule) (maxL := 4) (ret := (some (.boolean))) (by decide) rfl ?_
  intro p e s m args below meth c s₁ B hml hv
  obtain ⟨hav, hsz, hP, hK, hD0⟩ := hv
  have hx := B.exec
  have hb := B.bytes
  have hr := B.returns
  have hts : ∀ w ∈ gw, w.before args s = true := fun w h => atoms_spec (ws := w_Md_rule) B.pre w (List.mem_cons_of_mem _ h)
  have hown : s.vm.findClass RX9 = some m.cls := findClass_of_methodNamed B.named
  have hlocks := B.notSynchronized
  subst hsz
  have hD := hD0.self (sz := s.heap.size)
  obtain ⟨A, hAe⟩ : ∃ z, z = va_A (w_Md_ h_md ad_md tC md) s.heap.size := ⟨_, rfl⟩
  rw [← hAe] at hD
  have hA : ∀ q : Nat, s.heap.size ≤ q → A q := fun q h => by rw [hAe]; exact Or.inr h
  have hS : va_S A s.heap s.heap [] := va_S.rf
  refine q_w (R := rm_Md_rule) (fun Q hQ => ?_)
  refine en_w (av := [.ref h_md, .int p1, .long p2]) hav (Nat.le_of_ble_eq_true rfl) (fun ls hl => ?_)
  have hl : lv_has ls 4 [(0, .ref h_md), (1, .int p1), (2, .long p2)] := hl
  unfold f_Md_rule at hf
  refine lv_iload_n hx hb d_Md_rule_0 rfl (lv_at hl 1 rfl) ?_
  refine lv_i2l (v := p1.toInt64) hx hb d_Md_rule_1 rfl ?_
  refine lv_ldc2 (v := 4) hx hb hown (hts _ kK_9_142) d_Md_rule_2 ?_
  refine lv_ldc2 (v := 40) hx hb hown (hts _ kK_9_144) d_Md_rule_5 ?_
  obtain ⟨q1, hq1, hf⟩ := op_b hf
  refine ro_go rfl (va_runS (As := [.long p1.toInt64, .long 4, .long 40]) (rest := []) ⟨hx, hb, hml, hown, hts⟩ (m_Md_isIn l dC dI tC p1.toInt64 4 40 q1 _  hq1) (cwS 3 hts (gd_S kM_9_128 kS_Md_isIn kZ_9 kC_Md_isIn) rfl rfl rfl (by decide +kernel) ⟨(Nat.le_of_ble_eq_true rfl), (Nat.le_of_ble_eq_true rfl)⟩) ⟨ro_blind, ro_pre hK⟩ rfl rfl hl.1 rfl (lv_room (Nat.le_of_ble_eq_true rfl)) d_Md_rule_8 ⟨(Nat.le_of_ble_eq_true rfl), (Nat.le_of_ble_eq_true rfl)⟩) ?_
  refine W.eq (g2 := F0 m 11 ls [.int q1]) rfl ?_
  refine lv_if_eq (tgt := 25) hx hb d_Md_rule_11 (by decide) (fun c2 => ?_) (fun c2 => ?_)
  · have hf := op_t hf c2
    refine lv_iconst (v := 0) hx hb d_Md_rule_25 (by decide) ?_
    obtain rfl := Option.some.inj hf
    subst hQ
    subst hAe
    exact W.zret (v := 0) (ty := .boolean) hx hb hr (by decide) (fun t ht hW => ⟨⟨_, _, rfl, ⟨rfl, rfl⟩, by rw [ht]; exact hP, hD⟩, hS.F ht⟩) hS.2.2 d_Md_rule_26
  · have hf := op_e hf c2
    refine lv_lload_n hx hb d_Md_rule_14 rfl (lv_at hl 2 rfl) ?_
    refine lv_lconst (v := 0) hx hb d_Md_rule_15 (by decide) ?_
    refine lv_ldc2 (v := 500) hx hb hown (hts _ kK_9_146) d_Md_rule_16 ?_
    obtain ⟨q3, hq3, hf⟩ := op_b hf
    refine ro_go rfl (va_runS (As := [.long p2, .long 0, .long 500]) (rest := []) ⟨hx, hb, hml, hown, hts⟩ (m_Md_isIn l dC dI tC p2 0 500 q3 _  hq3) (cwS 3 hts (gd_S kM_9_128 kS_Md_isIn kZ_9 kC_Md_isIn) rfl rfl rfl (by decide +kernel) ⟨(Nat.le_of_ble_eq_true rfl), (Nat.le_of_ble_eq_true rfl)⟩) ⟨ro_blind, ro_pre hK⟩ rfl rfl hl.1 rfl (lv_room (Nat.le_of_ble_eq_true rfl)) d_Md_rule_19 ⟨(Nat.le_of_ble_eq_true rfl), (Nat.le_of_ble_eq_true rfl)⟩) ?_
    refine W.eq (g2 := F0 m 22 ls [.int q3]) rfl ?_
    refine lv_if_ne (tgt := 27) hx hb d_Md_rule_22 (by decide) (fun c4 => ?_) (fun c4 => ?_)
    · have hf := op_e hf c4
      refine lv_aload_n hx hb d_Md_rule_27 rfl (lv_at hl 0 rfl) ?_
      refine va_get (D := (dC, dI)) (ci := 9) (v := .ref (ad_md 3)) (C := RX9) (T := TX9) (N := 46) hx hb hts in_X9 hown hK hP 0 rfl rfl 5 (by decide) (hts _ kF_9_19) (fun _ h9 => h9) rfl d_Md_rule_28 ?_
      refine lv_iload_n hx hb d_Md_rule_31 rfl (lv_at hl 1 rfl) ?_
      refine lv_lload_n hx hb d_Md_rule_32 rfl (lv_at hl 2 rfl) ?_
      obtain ⟨hi5, hf⟩ := op_if hf
      refine va_last (f := md.2.2 0) hx hb hK hP hD hS 4 1 rfl rfl (ix_in hi5) d_Md_rule_33 (fun H locs hP hD hS => ?_)
      rw [wu_Md_l0] at hP hD
      obtain ⟨md6, hmd6, hf⟩ := op_b hf
      have hP : va_P (dC, dI) vwCl (w_Md_ h_md ad_md tC md6) H := by rw [← Option.some.inj hmd6]; exact hP
      have hD : va_D A (w_Md_ h_md ad_md tC md6) := by rw [← Option.some.inj hmd6]; exact hD
      refine lv_aload_n hx hb d_Md_rule_34 rfl (lv_at hl 0 rfl) ?_
      refine lv_iconst (v := 0) hx hb d_Md_rule_35 (by decide) ?_
      refine va_put (D := (dC, dI)) (ci := 9) (v := .int 0) (ty := .boolean) (C := RX9) (T := TX9) (N := 46) hx hb hts in_X9 tyX9 tyX9_ok nmX9 hown hK hP hD hS 0 (fs := [.ref (ad_md 0), .int (md6.1 0), .int (md6.1 1), .ref (ad_md 1), .ref (ad_md 2), .ref (ad_md 3), .int (md6.1 2), .ref (ad_md 4), .ref (ad_md 5), .ref (ad_md 6), .ref (ad_md 7), .ref (ad_md 8), .ref (ad_md 9), .ref (ad_md 10), .ref (ad_md 11), .ref (ad_md 12), .ref (ad_md 13), .ref (ad_md 14), .ref (ad_md 15), .int (md6.1 3), .ref (ad_md 16), .ref (ad_md 17), .ref (ad_md 18), .ref (ad_md 19), .ref (ad_md 20), .ref (ad_md 21), .ref (ad_md 22), .int (md6.1 4), .int (md6.1 5), .ref (ad_md 23), .ref (ad_md 24), .ref (ad_md 25), .ref (ad_md 26), .ref (ad_md 27), .int (md6.1 6), .int (md6.1 7), .int (md6.1 8), .ref (ad_md 28), .ref (ad_md 29), .ref (ad_md 30), .ref (ad_md 31), .ref (ad_md 32), .ref (ad_md 33), .ref (ad_md 34), .ref (ad_md 35), .int (md6.1 9)]) rfl rfl 27 (by decide) (hts _ kF_9_148) (fun _ h9 => h9) rfl (by decide +kernel) (by decide) (by decide) (Nat.le_of_ble_eq_true rfl) d_Md_rule_36 (fun H locs hP hD hS => ?_)
      rw [wu_Md_s4] at hP hD
      obtain ⟨md7, hmd7, hf⟩ := op_b hf
      have hP : va_P (dC, dI) vwCl (w_Md_ h_md ad_md tC md7) H := by rw [← Option.some.inj hmd7]; exact hP
      have hD : va_D A (w_Md_ h_md ad_md tC md7) := by rw [← Option.some.inj hmd7]; exact hD
      refine lv_iconst (v := 1) hx hb d_Md_rule_39 (by decide) ?_
      obtain rfl := Option.some.inj hf
      subst hQ
      subst hAe
      exact W.zret (v := 1) (ty := .boolean) hx hb hr (by decide) (fun t ht hW => ⟨⟨_, _, rfl, ⟨rfl, rfl⟩, by rw [ht]; exact hP, hD⟩, hS.F ht⟩) hS.2.2 d_Md_rule_40
    · have hf := op_t hf c4
      refine lv_iconst (v := 0) hx hb d_Md_rule_25 (by decide) ?_
      obtain rfl := Option.some.inj hf
      subst hQ
      subst hAe
      exact W.zret (v := 0) (ty := .boolean) hx hb hr (by decide) (fun t ht hW => ⟨⟨_, _, rfl, ⟨rfl, rfl⟩, by rw [ht]; exact hP, hD⟩, hS.F ht⟩) hS.2.2 d_Md_rule_26
def f_Md_bar (md : MS) (p1 : Int32) (p2 : Int32) (p3 : Int32) : Option (Int32 × MS) := (if p1 < 0 then some ((-1), md) else (if (md.1 1) ≤ p1 then some ((-1), md) else (f_Md_isIn p2.toInt64 4 40).bind fun q3 => (if q3 = 0 then some ((-1), md) else (f_Md_isIn p3.toInt64 1 5).bind fun q5 => (if q5 = 0 then some ((-1), md) else (if (md.1 2) = 12 then some ((-1), md) else if ix (md.1 2) 12 then (some (sA md 3 (upd (md.2.1 3) (md.1 2).toNatClampNeg p1))).bind fun md9 => if ix (md9.1 2) 12 then (some (sA md9 4 (upd (md9.2.1 4) (md9.1 2).toNatClampNeg p2))).bind fun md11 => if ix (md11.1 2) 12 then (some (sA md11 5 (upd (md11.2.1 5) (md11.1 2).toNatClampNeg p3))).bind fun md13 => (some (sI md13 2 ((md13.1 2) + 1))).bind fun md14 => (some (sI md14 4 0)).bind fun md15 => some ((md15.1 2) - 1, md15) else none else none else none)))))
def rm_Md_bar : Room := { frames := 1, cells := 0, slots := 0, locals := 25 }
set_option maxHeartbeats 4000000 in
set_option maxRecDepth 100000 in
theorem m_Md_bar (l : Launch) (dC : Nat → ClassId) (dI : Nat → Nat → Nat) (tC : Nat → ClassId) (h_md : Nat) (ad_md : Nat → Nat) (md : MS) (p1 : Int32) (p2 : Int32) (p3 : Int32) (R : Int32 × MS) (hf : f_Md_bar md p1 p2 p3 = some R) (sz : Nat) : Met l y_Md_bar w_Md_bar rm_Md_bar (wrP (dC, dI) tC (w_Md_ h_md ad_md tC md) sz [.ref h_md, .int p1, .int p2, .int p3]) (wrQ (dC, dI) (w_Md_ h_md ad_md tC md) sz (fun r w => r = (some (.int R.1)) ∧ w = (w_Md_ h_md ad_md tC R.2))) 0 0 (va_A (w_Md_ h_md ad_md tC md) sz) := by
  refine Met.ofW (cc := c_Md_bar) (maxL := 4) (ret := (some (.int))) (by decide) rfl ?_
  intro p e s m args below meth c s₁ B hml hv
  obtain ⟨hav, hsz, hP, hK, hD0⟩ := hv
  have hx := B.exec
  have hb := B.bytes
  have hr := B.returns
  have hts : ∀ w ∈ gw, w.before args s = true := fun w h => atoms_spec (ws := w_Md_bar) B.pre w (List.mem_cons_of_mem _ h)
  have hown : s.vm.findClass RX9 = some m.cls := findClass_of_methodNamed B.named
  have hlocks := B.notSynchronized
  subst hsz
  have hD := hD0.self (sz := s.heap.size)
  obtain ⟨A, hAe⟩ : ∃ z, z = va_A (w_Md_ h_md ad_md tC md) s.heap.size := ⟨_, rfl⟩
  rw [← hAe] at hD
  have hA : ∀ q : Nat, s.heap.size ≤ q → A q := fun q h => by rw [hAe]; exact Or.inr h
  have hS : va_S A s.heap s.heap [] := va_S.rf
  refine q_w (R := rm_Md_bar) (fun Q hQ => ?_)
  refine en_w (av := [.ref h_md, .int p1, .int p2, .int p3]) hav (Nat.le_of_ble_eq_true rfl) (fun ls hl => ?_)
  have hl : lv_has ls 4 [(0, .ref h_md), (1, .int p1), (2, .int p2), (3, .int p3)] := hl
  unfold f_Md_bar at hf
  refine lv_iload_n hx hb d_Md_bar_0 rfl (lv_at hl 1 rfl) ?_
  refine lv_if_lt (tgt := 47) hx hb d_Md_bar_1 (by decide) (fun c1 => ?_) (fun c1 => ?_)
  · have hf := op_t hf c1
    refine lv_iconst (v := (-1)) hx hb d_Md_bar_47 (by decide) ?_
    obtain rfl := Option.some.inj hf
    subst hQ
    subst hAe
    exact W.iret (v := (-1)) hx hb hr (fun t ht hW => ⟨⟨_, _, rfl, ⟨rfl, rfl⟩, by rw [ht]; exact hP, hD⟩, hS.F ht⟩) hS.2.2 d_Md_bar_48
  · have hf := op_e hf c1
    refine lv_iload_n hx hb d_Md_bar_4 rfl (lv_at hl 1 rfl) ?_
    refine lv_aload_n hx hb d_Md_bar_5 rfl (lv_at hl 0 rfl) ?_
    refine va_get (D := (dC, dI)) (ci := 9) (v := .int (md.1 1)) (C := RX9) (T := TX9) (N := 46) hx hb hts in_X9 hown hK hP 0 rfl rfl 2 (by decide) (hts _ kF_9_139) (fun _ h9 => h9) rfl d_Md_bar_6 ?_
    refine lv_icmp_ge (tgt := 47) hx hb d_Md_bar_9 (by decide) (fun c2 => ?_) (fun c2 => ?_)
    · have hf := op_t hf c2
      refine lv_iconst (v := (-1)) hx hb d_Md_bar_47 (by decide) ?_
      obtain rfl := Option.some.inj hf
      subst hQ
      subst hAe
      exact W.iret (v := (-1)) hx hb hr (fun t ht hW => ⟨⟨_, _, rfl, ⟨rfl, rfl⟩, by rw [ht]; exact hP, hD⟩, hS.F ht⟩) hS.2.2 d_Md_bar_48
    · have hf := op_e hf c2
      refine lv_iload_n hx hb d_Md_bar_12 rfl (lv_at hl 2 rfl) ?_
      refine lv_i2l (v := p2.toInt64) hx hb d_Md_bar_13 rfl ?_
      refine lv_ldc2 (v := 4) hx hb hown (hts _ kK_9_142) d_Md_bar_14 ?_
      refine lv_ldc2 (v := 40) hx hb hown (hts _ kK_9_144) d_Md_bar_17 ?_
      obtain ⟨q3, hq3, hf⟩ := op_b hf
      refine ro_go rfl (va_runS (As := [.long p2.toInt64, .long 4, .long 40]) (rest := []) ⟨hx, hb, hml, hown, hts⟩ (m_Md_isIn l dC dI tC p2.toInt64 4 40 q3 _  hq3) (cwS 3 hts (gd_S kM_9_128 kS_Md_isIn kZ_9 kC_Md_isIn) rfl rfl rfl (by decide +kernel) ⟨(Nat.le_of_ble_eq_true rfl), (Nat.le_of_ble_eq_true rfl)⟩) ⟨ro_blind, ro_pre hK⟩ rfl rfl hl.1 rfl (lv_room (Nat.le_of_ble_eq_true rfl)) d_Md_bar_20 ⟨(Nat.le_of_ble_eq_true rfl), (Nat.le_of_ble_eq_true rfl)⟩) ?_
      refine W.eq (g2 := F0 m 23 ls [.int q3]) rfl ?_
      refine lv_if_eq (tgt := 47) hx hb d_Md_bar_23 (by decide) (fun c4 => ?_) (fun c4 => ?_)
      · have hf := op_t hf c4
        refine lv_iconst (v := (-1)) hx hb d_Md_bar_47 (by decide) ?_
        obtain rfl := Option.some.inj hf
        subst hQ
        subst hAe
        exact W.iret (v := (-1)) hx hb hr (fun t ht hW => ⟨⟨_, _, rfl, ⟨rfl, rfl⟩, by rw [ht]; exact hP, hD⟩, hS.F ht⟩) hS.2.2 d_Md_bar_48
      · have hf := op_e hf c4
        refine lv_iload_n hx hb d_Md_bar_26 rfl (lv_at hl 3 rfl) ?_
        refine lv_i2l (v := p3.toInt64) hx hb d_Md_bar_27 rfl ?_
        refine lv_lconst (v := 1) hx hb d_Md_bar_28 (by decide) ?_
        refine lv_ldc2 (v := 5) hx hb hown (hts _ kK_9_152) d_Md_bar_29 ?_
        obtain ⟨q5, hq5, hf⟩ := op_b hf
        refine ro_go rfl (va_runS (As := [.long p3.toInt64, .long 1, .long 5]) (rest := []) ⟨hx, hb, hml, hown, hts⟩ (m_Md_isIn l dC dI tC p3.toInt64 1 5 q5 _  hq5) (cwS 3 hts (gd_S kM_9_128 kS_Md_isIn kZ_9 kC_Md_isIn) rfl rfl rfl (by decide +kernel) ⟨(Nat.le_of_ble_eq_true rfl), (Nat.le_of_ble_eq_true rfl)⟩) ⟨ro_blind, ro_pre hK⟩ rfl rfl hl.1 rfl (lv_room (Nat.le_of_ble_eq_true rfl)) d_Md_bar_32 ⟨(Nat.le_of_ble_eq_true rfl), (Nat.le_of_ble_eq_true rfl)⟩) ?_
        refine W.eq (g2 := F0 m 35 ls [.int q5]) rfl ?_
        refine lv_if_eq (tgt := 47) hx hb d_Md_bar_35 (by decide) (fun c6 => ?_) (fun c6 => ?_)
        · have hf := op_t hf c6
          refine lv_iconst (v := (-1)) hx hb d_Md_bar_47 (by decide) ?_
          obtain rfl := Option.some.inj hf
          subst hQ
          subst hAe
          exact W.iret (v := (-1)) hx hb hr (fun t ht hW => ⟨⟨_, _, rfl, ⟨rfl, rfl⟩, by rw [ht]; exact hP, hD⟩, hS.F ht⟩) hS.2.2 d_Md_bar_48
        · have hf := op_e hf c6
          refine lv_aload_n hx hb d_Md_bar_38 rfl (lv_at hl 0 rfl) ?_
          refine va_get (D := (dC, dI)) (ci := 9) (v := .int (md.1 2)) (C := RX9) (T := TX9) (N := 46) hx hb hts in_X9 hown hK hP 0 rfl rfl 6 (by decide) (hts _ kF_9_120) (fun _ h9 => h9) rfl d_Md_bar_39 ?_
          refine lv_bipush (v := 12) hx hb d_Md_bar_42 (by decide) ?_
          refine lv_icmp_ne (tgt := 49) hx hb d_Md_bar_44 (by decide) (fun c7 => ?_) (fun c7 => ?_)
          · have hf := op_e hf c7
            refine lv_aload_n hx hb d_Md_bar_49 rfl (lv_at hl 0 rfl) ?_
            refine va_get (D := (dC, dI)) (ci := 9) (v := .ref (ad_md 4)) (C := RX9) (T := TX9) (N := 46) hx hb hts in_X9 hown hK hP 0 rfl rfl 7 (by decide) (hts _ kF_9_23) (fun _ h9 => h9) rfl d_Md_bar_50 ?_
            refine lv_aload_n hx hb d_Md_bar_53 rfl (lv_at hl 0 rfl) ?_
            refine va_get (D := (dC, dI)) (ci := 9) (v := .int (md.1 2)) (C := RX9) (T := TX9) (N := 46) hx hb hts in_X9 hown hK hP 0 rfl rfl 6 (by decide) (hts _ kF_9_120) (fun _ h9 => h9) rfl d_Md_bar_54 ?_
            refine lv_iload_n hx hb d_Md_bar_57 rfl (lv_at hl 1 rfl) ?_
            obtain ⟨hi8, hf⟩ := op_if hf
            refine va_iast (f := md.2.1 3) hx hb hK hP hD hS 5 0 rfl rfl (ix_in hi8) d_Md_bar_58 (fun H locs hP hD hS => ?_)
            rw [wu_Md_a3] at hP hD
            obtain ⟨md9, hmd9, hf⟩ := op_b hf
            have hP : va_P (dC, dI) vwCl (w_Md_ h_md ad_md tC md9) H := by rw [← Option.some.inj hmd9]; exact hP
            have hD : va_D A (w_Md_ h_md ad_md tC md9) := by rw [← Option.some.inj hmd9]; exact hD
            refine lv_aload_n hx hb d_Md_bar_59 rfl (lv_at hl 0 rfl) ?_
            refine va_get (D := (dC, dI)) (ci := 9) (v := .ref (ad_md 5)) (C := RX9) (T := TX9) (N := 46) hx hb hts in_X9 hown hK hP 0 rfl rfl 8 (by decide) (hts _ kF_9_26) (fun _ h9 => h9) rfl d_Md_bar_60 ?_
            refine lv_aload_n hx hb d_Md_bar_63 rfl (lv_at hl 0 rfl) ?_
            refine va_get (D := (dC, dI)) (ci := 9) (v := .int (md9.1 2)) (C := RX9) (T := TX9) (N := 46) hx hb hts in_X9 hown hK hP 0 rfl rfl 6 (by decide) (hts _ kF_9_120) (fun _ h9 => h9) rfl d_Md_bar_64 ?_
            refine lv_iload_n hx hb d_Md_bar_67 rfl (lv_at hl 2 rfl) ?_
            obtain ⟨hi10, hf⟩ := op_if hf
            refine va_iast (f := md9.2.1 4) hx hb hK hP hD hS 6 0 rfl rfl (ix_in hi10) d_Md_bar_68 (fun H locs hP hD hS => ?_)
            rw [wu_Md_a4] at hP hD
            obtain ⟨md11, hmd11, hf⟩ := op_b hf
            have hP : va_P (dC, dI) vwCl (w_Md_ h_md ad_md tC md11) H := by rw [← Option.some.inj hmd11]; exact hP
            have hD : va_D A (w_Md_ h_md ad_md tC md11) := by rw [← Option.some.inj hmd11]; exact hD
            refine lv_aload_n hx hb d_Md_bar_69 rfl (lv_at hl 0 rfl) ?_
            refine va_get (D := (dC, dI)) (ci := 9) (v := .ref (ad_md 6)) (C := RX9) (T := TX9) (N := 46) hx hb hts in_X9 hown hK hP 0 rfl rfl 9 (by decide) (hts _ kF_9_29) (fun _ h9 => h9) rfl d_Md_bar_70 ?_
            refine lv_aload_n hx hb d_Md_bar_73 rfl (lv_at hl 0 rfl) ?_
            refine va_get (D := (dC, dI)) (ci := 9) (v := .int (md11.1 2)) (C := RX9) (T := TX9) (N := 46) hx hb hts in_X9 hown hK hP 0 rfl rfl 6 (by decide) (hts _ kF_9_120) (fun _ h9 => h9) rfl d_Md_bar_74 ?_
            refine lv_iload_n hx hb d_Md_bar_77 rfl (lv_at hl 3 rfl) ?_
            obtain ⟨hi12, hf⟩ := op_if hf
            refine va_iast (f := md11.2.1 5) hx hb hK hP hD hS 7 0 rfl rfl (ix_in hi12) d_Md_bar_78 (fun H locs hP hD hS => ?_)
            rw [wu_Md_a5] at hP hD
            obtain ⟨md13, hmd13, hf⟩ := op_b hf
            have hP : va_P (dC, dI) vwCl (w_Md_ h_md ad_md tC md13) H := by rw [← Option.some.inj hmd13]; exact hP
            have hD : va_D A (w_Md_ h_md ad_md tC md13) := by rw [← Option.some.inj hmd13]; exact hD
            refine lv_aload_n hx hb d_Md_bar_79 rfl (lv_at hl 0 rfl) ?_
            refine lv_dup hx hb d_Md_bar_80 rfl ?_
            refine va_get (D := (dC, dI)) (ci := 9) (v := .int (md13.1 2)) (C := RX9) (T := TX9) (N := 46) hx hb hts in_X9 hown hK hP 0 rfl rfl 6 (by decide) (hts _ kF_9_120) (fun _ h9 => h9) rfl d_Md_bar_81 ?_
            refine lv_iconst (v := 1) hx hb d_Md_bar_84 (by decide) ?_
            refine lv_iadd hx hb d_Md_bar_85 ?_
            refine va_put (D := (dC, dI)) (ci := 9) (v := .int ((md13.1 2) + 1)) (ty := .int) (C := RX9) (T := TX9) (N := 46) hx hb hts in_X9 tyX9 tyX9_ok nmX9 hown hK hP hD hS 0 (fs := [.ref (ad_md 0), .int (md13.1 0), .int (md13.1 1), .ref (ad_md 1), .ref (ad_md 2), .ref (ad_md 3), .int (md13.1 2), .ref (ad_md 4), .ref (ad_md 5), .ref (ad_md 6), .ref (ad_md 7), .ref (ad_md 8), .ref (ad_md 9), .ref (ad_md 10), .ref (ad_md 11), .ref (ad_md 12), .ref (ad_md 13), .ref (ad_md 14), .ref (ad_md 15), .int (md13.1 3), .ref (ad_md 16), .ref (ad_md 17), .ref (ad_md 18), .ref (ad_md 19), .ref (ad_md 20), .ref (ad_md 21), .ref (ad_md 22), .int (md13.1 4), .int (md13.1 5), .ref (ad_md 23), .ref (ad_md 24), .ref (ad_md 25), .ref (ad_md 26), .ref (ad_md 27), .int (md13.1 6), .int (md13.1 7), .int (md13.1 8), .ref (ad_md 28), .ref (ad_md 29), .ref (ad_md 30), .ref (ad_md 31), .ref (ad_md 32), .ref (ad_md 33), .ref (ad_md 34), .ref (ad_md 35), .int (md13.1 9)]) rfl rfl 6 (by decide) (hts _ kF_9_120) (fun _ h9 => h9) rfl (by decide +kernel) (rfl) (rfl) (Nat.le_of_ble_eq_true rfl) d_Md_bar_86 (fun H locs hP hD hS => ?_)
            rw [wu_Md_s2] at hP hD
            obtain ⟨md14, hmd14, hf⟩ := op_b hf
            have hP : va_P (dC, dI) vwCl (w_Md_ h_md ad_md tC md14) H := by rw [← Option.some.inj hmd14]; exact hP
            have hD : va_D A (w_Md_ h_md ad_md tC md14) := by rw [← Option.some.inj hmd14]; exact hD
            refine lv_aload_n hx hb d_Md_bar_89 rfl (lv_at hl 0 rfl) ?_
            refine lv_iconst (v := 0) hx hb d_Md_bar_90 (by decide) ?_
            refine va_put (D := (dC, dI)) (ci := 9) (v := .int 0) (ty := .boolean) (C := RX9) (T := TX9) (N := 46) hx hb hts in_X9 tyX9 tyX9_ok nmX9 hown hK hP hD hS 0 (fs := [.ref (ad_md 0), .int (md14.1 0), .int (md14.1 1), .ref (ad_md 1), .ref (ad_md 2), .ref (ad_md 3), .int (md14.1 2), .ref (ad_md 4), .ref (ad_md 5), .ref (ad_md 6), .ref (ad_md 7), .ref (ad_md 8), .ref (ad_md 9), .ref (ad_md 10), .ref (ad_md 11), .ref (ad_md 12), .ref (ad_md 13), .ref (ad_md 14), .ref (ad_md 15), .int (md14.1 3), .ref (ad_md 16), .ref (ad_md 17), .ref (ad_md 18), .ref (ad_md 19), .ref (ad_md 20), .ref (ad_md 21), .ref (ad_md 22), .int (md14.1 4), .int (md14.1 5), .ref (ad_md 23), .ref (ad_md 24), .ref (ad_md 25), .ref (ad_md 26), .ref (ad_md 27), .int (md14.1 6), .int (md14.1 7), .int (md14.1 8), .ref (ad_md 28), .ref (ad_md 29), .ref (ad_md 30), .ref (ad_md 31), .ref (ad_md 32), .ref (ad_md 33), .ref (ad_md 34), .ref (ad_md 35), .int (md14.1 9)]) rfl rfl 27 (by decide) (hts _ kF_9_148) (fun _ h9 => h9) rfl (by decide +kernel) (by decide) (by decide) (Nat.le_of_ble_eq_true rfl) d_Md_bar_91 (fun H locs hP hD hS => ?_)
            rw [wu_Md_s4] at hP hD
            obtain ⟨md15, hmd15, hf⟩ := op_b hf
            have hP : va_P (dC, dI) vwCl (w_Md_ h_md ad_md tC md15) H := by rw [← Option.some.inj hmd15]; exact hP
            have hD : va_D A (w_Md_ h_md ad_md tC md15) := by rw [← Option.some.inj hmd15]; exact hD
            refine lv_aload_n hx hb d_Md_bar_94 rfl (lv_at hl 0 rfl) ?_
            refine va_get (D := (dC, dI)) (ci := 9) (v := .int (md15.1 2)) (C := RX9) (T := TX9) (N := 46) hx hb hts in_X9 hown hK hP 0 rfl rfl 6 (by decide) (hts _ kF_9_120) (fun _ h9 => h9) rfl d_Md_bar_95 ?_
            refine lv_iconst (v := 1) hx hb d_Md_bar_98 (by decide) ?_
            refine lv_isub hx hb d_Md_bar_99 ?_
            obtain rfl := Option.some.inj hf
            subst hQ
            subst hAe
            exact W.iret (v := (md15.1 2) - 1) hx hb hr (fun t ht hW => ⟨⟨_, _, rfl, ⟨rfl, rfl⟩, by rw [ht]; exact hP, hD⟩, hS.F ht⟩) hS.2.2 d_Md_bar_100
          · have hf := op_t hf c7
            refine lv_iconst (v := (-1)) hx hb d_Md_bar_47 (by decide) ?_
            obtain rfl := Option.some.inj hf
            subst hQ
            subst hAe
            exact W.iret (v := (-1)) hx hb hr (fun t ht hW => ⟨⟨_, _, rfl, ⟨rfl, rfl⟩, by rw [ht]; exact hP, hD⟩, hS.F ht⟩) hS.2.2 d_Md_bar_48
def f_Md_leg (md : MS) (p1 : Int32) (p2 : Int32) (p3 : Int64) : Option (Int32 × MS) := (f_Md_isLine md p1).bind fun q1 => (if q1 = 0 then some (0, md) else (if p2 < 0 then some (0, md) else if ix p1 12 then if ix ((md.2.1 3) p1.toNatClampNeg) 10 then (if ((md.2.1 1) ((md.2.1 3) p1.toNatClampNeg).toNatClampNeg) ≤ p2 then some (0, md) else (f_Md_isIn p3 1 20000).bind fun q7 => (if q7 = 0 then some (0, md) else if ix ((6 * p1) + p2) 72 then (some (sL md 1 (vp_updL (md.2.2 1) ((6 * p1) + p2).toNatClampNeg p3))).bind fun md10 => (some (sI md10 4 0)).bind fun md11 => some (1, md11) else none)) else none else none))
def rm_Md_leg : Room := { frames := 1, cells := 0, slots := 0, locals := 25 }
set_option maxHeartbeats 4000000 in
set_option maxRecDepth 100000 in
theorem m_Md_leg (l : Launch) (dC : Nat → ClassId) (dI : Nat → Nat → Nat) (tC : Nat → ClassId) (h_md : Nat) (ad_md : Nat → Nat) (md : MS) (p1 : Int32) (p2 : Int32) (p3 : Int64) (R : Int32 × MS) (hf : f_Md_leg md p1 p2 p3 = some R) (sz : Nat) : Met l y_Md_leg w_Md_leg rm_Md_leg (wrP (dC, dI) tC (w_Md_ h_md ad_md tC md) sz [.ref h_md, .int p1, .int p2, .long p3]) (wrQ (dC, dI) (w_Md_ h_md ad_md tC md) sz (fun r w => r = (some (.int R.1)) ∧ w = (w_Md_ h_md ad_md tC R.2))) 0 0 (va_A (w_Md_ h_md ad_md tC md) sz) := by
  refine Met.ofW (cc := c_Md_leg) (maxL := 5) (ret := (some (.boolean))) (by decide) rfl ?_
  intro p e s m args below meth c s₁ B hml hv
  obtain ⟨hav, hsz, hP, hK, hD0⟩ := hv
  have hx := B.exec
  have hb := B.bytes
  have hr := B.returns
  have hts : ∀ w ∈ gw, w.before args s = true := fun w h => atoms_spec (ws := w_Md_leg) B.pre w (List.mem_cons_of_mem _ h)
  have hown : s.vm.findClass RX9 = some m.cls := findClass_of_methodNamed B.named
  have hlocks := B.notSynchronized
  subst hsz
  have hD := hD0.self (sz := s.heap.size)
  obtain ⟨A, hAe⟩ : ∃ z, z = va_A (w_Md_ h_md ad_md tC md) s.heap.size := ⟨_, rfl⟩
  rw [← hAe] at hD
  have hA : ∀ q : Nat, s.heap.size ≤ q → A q := fun q h => by rw [hAe]; exact Or.inr h
  have hS : va_S A s.heap s.heap [] := va_S.rf
  refine q_w (R := rm_Md_leg) (fun Q hQ => ?_)
  refine en_w (av := [.ref h_md, .int p1, .int p2, .long p3]) hav (Nat.le_of_ble_eq_true rfl) (fun ls hl => ?_)
  have hl : lv_has ls 5 [(0, .ref h_md), (1, .int p1), (2, .int p2), (3, .long p3)] := hl
  unfold f_Md_leg at hf
  refine lv_aload_n hx hb d_Md_leg_0 rfl (lv_at hl 0 rfl) ?_
  refine lv_iload_n hx hb d_Md_leg_1 rfl (lv_at hl 1 rfl) ?_
  obtain ⟨q1, hq1, hf⟩ := op_b hf
  refine ro_go rfl (va_runV (As := [.int p1]) (rest := []) ⟨hx, hb, hml, hown, hts⟩ (m_Md_isLine l dC dI tC h_md ad_md md p1 q1 _ hP hq1) (cwV 1 hts (gd_V kM_9_154 kI_Md_isLine kV_Md_isLine kZ_9 kC_Md_isLine) rfl rfl rfl (by decide +kernel) ⟨(Nat.le_of_ble_eq_true rfl), (Nat.le_of_ble_eq_true rfl)⟩) ⟨ro_blind, va_recv hK hP (ci := 9) (q0 := 0) rfl rfl, ro_pre hK⟩ rfl rfl hl.1 rfl (lv_room (Nat.le_of_ble_eq_true rfl)) d_Md_leg_2 ⟨(Nat.le_of_ble_eq_true rfl), (Nat.le_of_ble_eq_true rfl)⟩) ?_
  refine W.eq (g2 := F0 m 5 ls [.int q1]) rfl ?_
  refine lv_if_eq (tgt := 38) hx hb d_Md_leg_5 (by decide) (fun c2 => ?_) (fun c2 => ?_)
  · have hf := op_t hf c2
    refine lv_iconst (v := 0) hx hb d_Md_leg_38 (by decide) ?_
    obtain rfl := Option.some.inj hf
    subst hQ
    subst hAe
    exact W.zret (v := 0) (ty := .boolean) hx hb hr (by decide) (fun t ht hW => ⟨⟨_, _, rfl, ⟨rfl, rfl⟩, by rw [ht]; exact hP, hD⟩, hS.F ht⟩) hS.2.2 d_Md_leg_39
  · have hf := op_e hf c2
    refine lv_iload_n hx hb d_Md_leg_8 rfl (lv_at hl 2 rfl) ?_
    refine lv_if_lt (tgt := 38) hx hb d_Md_leg_9 (by decide) (fun c3 => ?_) (fun c3 => ?_)
    · have hf := op_t hf c3
      refine lv_iconst (v := 0) hx hb d_Md_leg_38 (by decide) ?_
      obtain rfl := Option.some.inj hf
      subst hQ
      subst hAe
      exact W.zret (v := 0) (ty := .boolean) hx hb hr (by decide) (fun t ht hW => ⟨⟨_, _, rfl, ⟨rfl, rfl⟩, by rw [ht]; exact hP, hD⟩, hS.F ht⟩) hS.2.2 d_Md_leg_39
    · have hf := op_e hf c3
      refine lv_iload_n hx hb d_Md_leg_12 rfl (lv_at hl 2 rfl) ?_
      refine lv_aload_n hx hb d_Md_leg_13 rfl (lv_at hl 0 rfl) ?_
      refine va_get (D := (dC, dI)) (ci := 9) (v := .ref (ad_md 1)) (C := RX9) (T := TX9) (N := 46) hx hb hts in_X9 hown hK hP 0 rfl rfl 3 (by decide) (hts _ kF_9_13) (fun _ h9 => h9) rfl d_Md_leg_14 ?_
      refine lv_aload_n hx hb d_Md_leg_17 rfl (lv_at hl 0 rfl) ?_
      refine va_get (D := (dC, dI)) (ci := 9) (v := .ref (ad_md 4)) (C := RX9) (T := TX9) (N := 46) hx hb hts in_X9 hown hK hP 0 rfl rfl 7 (by decide) (hts _ kF_9_23) (fun _ h9 => h9) rfl d_Md_leg_18 ?_
      refine lv_iload_n hx hb d_Md_leg_21 rfl (lv_at hl 1 rfl) ?_
      obtain ⟨hi4, hf⟩ := op_if hf
      refine va_iald (f := md.2.1 3) hx hb hK hP 5 0 rfl rfl (ix_in hi4) d_Md_leg_22 ?_
      obtain ⟨hi5, hf⟩ := op_if hf
      refine va_iald (f := md.2.1 1) hx hb hK hP 2 0 rfl rfl (ix_in hi5) d_Md_leg_23 ?_
      refine lv_icmp_ge (tgt := 38) hx hb d_Md_leg_24 (by decide) (fun c6 => ?_) (fun c6 => ?_)
      · have hf := op_t hf c6
        refine lv_iconst (v := 0) hx hb d_Md_leg_38 (by decide) ?_
        obtain rfl := Option.some.inj hf
        subst hQ
        subst hAe
        exact W.zret (v := 0) (ty := .boolean) hx hb hr (by decide) (fun t ht hW => ⟨⟨_, _, rfl, ⟨rfl, rfl⟩, by rw [ht]; exact hP, hD⟩, hS.F ht⟩) hS.2.2 d_Md_leg_39
      · have hf := op_e hf c6
        refine lv_lload_n hx hb d_Md_leg_27 rfl (lv_at hl 3 rfl) ?_
        refine lv_lconst (v := 1) hx hb d_Md_leg_28 (by decide) ?_
        refine lv_ldc2 (v := 20000) hx hb hown (hts _ kK_9_158) d_Md_leg_29 ?_
        obtain ⟨q7, hq7, hf⟩ := op_b hf
        refine ro_go rfl (va_runS (As := [.long p3, .long 1, .long 20000]) (rest := []) ⟨hx, hb, hml, hown, hts⟩ (m_Md_isIn l dC dI tC p3 1 20000 q7 _  hq7) (cwS 3 hts (gd_S kM_9_128 kS_Md_isIn kZ_9 kC_Md_isIn) rfl rfl rfl (by decide +kernel) ⟨(Nat.le_of_ble_eq_true rfl), (Nat.le_of_ble_eq_true rfl)⟩) ⟨ro_blind, ro_pre hK⟩ rfl rfl hl.1 rfl (lv_room (Nat.le_of_ble_eq_true rfl)) d_Md_leg_32 ⟨(Nat.le_of_ble_eq_true rfl), (Nat.le_of_ble_eq_true rfl)⟩) ?_
        refine W.eq (g2 := F0 m 35 ls [.int q7]) rfl ?_
        refine lv_if_ne (tgt := 40) hx hb d_Md_leg_35 (by decide) (fun c8 => ?_) (fun c8 => ?_)
        · have hf := op_e hf c8
          refine lv_aload_n hx hb d_Md_leg_40 rfl (lv_at hl 0 rfl) ?_
          refine va_get (D := (dC, dI)) (ci := 9) (v := .ref (ad_md 7)) (C := RX9) (T := TX9) (N := 46) hx hb hts in_X9 hown hK hP 0 rfl rfl 10 (by decide) (hts _ kF_9_32) (fun _ h9 => h9) rfl d_Md_leg_41 ?_
          refine lv_bipush (v := 6) hx hb d_Md_leg_44 (by decide) ?_
          refine lv_iload_n hx hb d_Md_leg_46 rfl (lv_at hl 1 rfl) ?_
          refine lv_imul hx hb d_Md_leg_47 ?_
          refine lv_iload_n hx hb d_Md_leg_48 rfl (lv_at hl 2 rfl) ?_
          refine lv_iadd hx hb d_Md_leg_49 ?_
          refine lv_lload_n hx hb d_Md_leg_50 rfl (lv_at hl 3 rfl) ?_
          obtain ⟨hi9, hf⟩ := op_if hf
          refine va_last (f := md.2.2 1) hx hb hK hP hD hS 8 1 rfl rfl (ix_in hi9) d_Md_leg_51 (fun H locs hP hD hS => ?_)
          rw [wu_Md_l1] at hP hD
          obtain ⟨md10, hmd10, hf⟩ := op_b hf
          have hP : va_P (dC, dI) vwCl (w_Md_ h_md ad_md tC md10) H := by rw [← Option.some.inj hmd10]; exact hP
          have hD : va_D A (w_Md_ h_md ad_md tC md10) := by rw [← Option.some.inj hmd10]; exact hD
          refine lv_aload_n hx hb d_Md_leg_52 rfl (lv_at hl 0 rfl) ?_
          refine lv_iconst (v := 0) hx hb d_Md_leg_53 (by decide) ?_
          refine va_put (D := (dC, dI)) (ci := 9) (v := .int 0) (ty := .boolean) (C := RX9) (T := TX9) (N := 46) hx hb hts in_X9 tyX9 tyX9_ok nmX9 hown hK hP hD hS 0 (fs := [.ref (ad_md 0), .int (md10.1 0), .int (md10.1 1), .ref (ad_md 1), .ref (ad_md 2), .ref (ad_md 3), .int (md10.1 2), .ref (ad_md 4), .ref (ad_md 5), .ref (ad_md 6), .ref (ad_md 7), .ref (ad_md 8), .ref (ad_md 9), .ref (ad_md 10), .ref (ad_md 11), .ref (ad_md 12), .ref (ad_md 13), .ref (ad_md 14), .ref (ad_md 15), .int (md10.1 3), .ref (ad_md 16), .ref (ad_md 17), .ref (ad_md 18), .ref (ad_md 19), .ref (ad_md 20), .ref (ad_md 21), .ref (ad_md 22), .int (md10.1 4), .int (md10.1 5), .ref (ad_md 23), .ref (ad_md 24), .ref (ad_md 25), .ref (ad_md 26), .ref (ad_md 27), .int (md10.1 6), .int (md10.1 7), .int (md10.1 8), .ref (ad_md 28), .ref (ad_md 29), .ref (ad_md 30), .ref (ad_md 31), .ref (ad_md 32), .ref (ad_md 33), .ref (ad_md 34), .ref (ad_md 35), .int (md10.1 9)]) rfl rfl 27 (by decide) (hts _ kF_9_148) (fun _ h9 => h9) rfl (by decide +kernel) (by decide) (by decide) (Nat.le_of_ble_eq_true rfl) d_Md_leg_54 (fun H locs hP hD hS => ?_)
          rw [wu_Md_s4] at hP hD
          obtain ⟨md11, hmd11, hf⟩ := op_b hf
          have hP : va_P (dC, dI) vwCl (w_Md_ h_md ad_md tC md11) H := by rw [← Option.some.inj hmd11]; exact hP
          have hD : va_D A (w_Md_ h_md ad_md tC md11) := by rw [← Option.some.inj hmd11]; exact hD
          refine lv_iconst (v := 1) hx hb d_Md_leg_57 (by decide) ?_
          obtain rfl := Option.some.inj hf
          subst hQ
          subst hAe
          exact W.zret (v := 1) (ty := .boolean) hx hb hr (by decide) (fun t ht hW => ⟨⟨_, _, rfl, ⟨rfl, rfl⟩, by rw [ht]; exact hP, hD⟩, hS.F ht⟩) hS.2.2 d_Md_leg_58
        · have hf := op_t hf c8
          refine lv_iconst (v := 0) hx hb d_Md_leg_38 (by decide) ?_
          obtain rfl := Option.some.inj hf
          subst hQ
          subst hAe
          exact W.zret (v := 0) (ty := .boolean) hx hb hr (by decide) (fun t ht hW => ⟨⟨_, _, rfl, ⟨rfl, rfl⟩, by rw [ht]; exact hP, hD⟩, hS.F ht⟩) hS.2.2 d_Md_leg_39
def f_Md_stock (md : MS) (p1 : Int32) (p2 : Int64) (p3 : Int32) : Option (Int32 × MS) := (f_Md_isIn p1.toInt64 4 40).bind fun q1 => (if q1 = 0 then some (0, md) else (f_Md_isIn p2 1 30000).bind fun q3 => (if q3 = 0 then some (0, md) else (f_Md_isIn p3.toInt64 0 20).bind fun q5 => (if q5 = 0 then some (0, md) else if ix p1 41 then (if ((md.2.1 7) p1.toNatClampNeg) = 3 then some (0, md) else if ix p1 41 then if ix ((3 * p1) + ((md.2.1 7) p1.toNatClampNeg)) 123 then (some (sL md 5 (vp_updL (md.2.2 5) ((3 * p1) + ((md.2.1 7) p1.toNatClampNeg)).toNatClampNeg p2))).bind fun md11 => if ix p1 41 then if ix ((3 * p1) + ((md11.2.1 7) p1.toNatClampNeg)) 123 then (some (sA md11 8 (upd (md11.2.1 8) ((3 * p1) + ((md11.2.1 7) p1.toNatClampNeg)).toNatClampNeg p3))).bind fun md14 => if ix p1 41 then if ix p1 41 then (some (sA md14 7 (upd (md14.2.1 7) p1.toNatClampNeg (((md14.2.1 7) p1.toNatClampNeg) + 1)))).bind fun md17 => (some (sI md17 4 0)).bind fun md18 => some (1, md18) else none else none else none else none else none else none) else none)))
def rm_Md_stock : Room := { frames := 1, cells := 0, slots := 0, locals := 25 }
set_option maxHeartbeats 4000000 in
set_option maxRecDepth 100000 in
theorem m_Md_stock (l : Launch) (dC : Nat → ClassId) (dI : Nat → Nat → Nat) (tC : Nat → ClassId) (h_md : Nat) (ad_md : Nat → Nat) (md : MS) (p1 : Int32) (p2 : Int64) (p3 : Int32) (R : Int32 × MS) (hf : f_Md_stock md p1 p2 p3 = some R) (sz : Nat) : Met l y_Md_stock w_Md_stock rm_Md_stock (wrP (dC, dI) tC (w_Md_ h_md ad_md tC md) sz [.ref h_md, .int p1, .long p2, .int p3]) (wrQ (dC, dI) (w_Md_ h_md ad_md tC md) sz (fun r w => r = (some (.int R.1)) ∧ w = (w_Md_ h_md ad_md tC R.2))) 0 0 (va_A (w_Md_ h_md ad_md tC md) sz) := by
  refine Met.ofW (cc := c_Md_stock) (maxL := 5) (ret := (some (.boolean))) (by decide) rfl ?_
  intro p e s m args below meth c s₁ B hml hv
  obtain ⟨hav, hsz, hP, hK, hD0⟩ := hv
  have hx := B.exec
  have hb := B.bytes
  have hr := B.returns
  have hts : ∀ w ∈ gw, w.before args s = true := fun w h => atoms_spec (ws := w_Md_stock) B.pre w (List.mem_cons_of_mem _ h)
  have hown : s.vm.findClass RX9 = some m.cls := findClass_of_methodNamed B.named
  have hlocks := B.notSynchronized
  subst hsz
  have hD := hD0.self (sz := s.heap.size)
  obtain ⟨A, hAe⟩ : ∃ z, z = va_A (w_Md_ h_md ad_md tC md) s.heap.size := ⟨_, rfl⟩
  rw [← hAe] at hD
  have hA : ∀ q : Nat, s.heap.size ≤ q → A q := fun q h => by rw [hAe]; exact Or.inr h
  have hS : va_S A s.heap s.heap [] := va_S.rf
  refine q_w (R := rm_Md_stock) (fun Q hQ => ?_)
  refine en_w (av := [.ref h_md, .int p1, .long p2, .int p3]) hav (Nat.le_of_ble_eq_true rfl) (fun ls hl => ?_)
  have hl : lv_has ls 5 [(0, .ref h_md), (1, .int p1), (2, .long p2), (4, .int p3)] := hl
  unfold f_Md_stock at hf
  refine lv_iload_n hx hb d_Md_stock_0 rfl (lv_at hl 1 rfl) ?_
  refine lv_i2l (v := p1.toInt64) hx hb d_Md_stock_1 rfl ?_
  refine lv_ldc2 (v := 4) hx hb hown (hts _ kK_9_142) d_Md_stock_2 ?_
  refine lv_ldc2 (v := 40) hx hb hown (hts _ kK_9_144) d_Md_stock_5 ?_
  obtain ⟨q1, hq1, hf⟩ := op_b hf
  refine ro_go rfl (va_runS (As := [.long p1.toInt64, .long 4, .long 40]) (rest := []) ⟨hx, hb, hml, hown, hts⟩ (m_Md_isIn l dC dI tC p1.toInt64 4 40 q1 _  hq1) (cwS 3 hts (gd_S kM_9_128 kS_Md_isIn kZ_9 kC_Md_isIn) rfl rfl rfl (by decide +kernel) ⟨(Nat.le_of_ble_eq_true rfl), (Nat.le_of_ble_eq_true rfl)⟩) ⟨ro_blind, ro_pre hK⟩ rfl rfl hl.1 rfl (lv_room (Nat.le_of_ble_eq_true rfl)) d_Md_stock_8 ⟨(Nat.le_of_ble_eq_true rfl), (Nat.le_of_ble_eq_true rfl)⟩) ?_
  refine W.eq (g2 := F0 m 11 ls [.int q1]) rfl ?_
  refine lv_if_eq (tgt := 48) hx hb d_Md_stock_11 (by decide) (fun c2 => ?_) (fun c2 => ?_)
  · have hf := op_t hf c2
    refine lv_iconst (v := 0) hx hb d_Md_stock_48 (by decide) ?_
    obtain rfl := Option.some.inj hf
    subst hQ
    subst hAe
    exact W.zret (v := 0) (ty := .boolean) hx hb hr (by decide) (fun t ht hW => ⟨⟨_, _, rfl, ⟨rfl, rfl⟩, by rw [ht]; exact hP, hD⟩, hS.F ht⟩) hS.2.2 d_Md_stock_49
  · have hf := op_e hf c2
    refine lv_lload_n hx hb d_Md_stock_14 rfl (lv_at hl 2 rfl) ?_
    refine lv_lconst (v := 1) hx hb d_Md_stock_15 (by decide) ?_
    refine lv_ldc2 (v := 30000) hx hb hown (hts _ kK_9_160) d_Md_stock_16 ?_
    obtain ⟨q3, hq3, hf⟩ := op_b hf
    refine ro_go rfl (va_runS (As := [.long p2, .long 1, .long 30000]) (rest := []) ⟨hx, hb, hml, hown, hts⟩ (m_Md_isIn l dC dI tC p2 1 30000 q3 _  hq3) (cwS 3 hts (gd_S kM_9_128 kS_Md_isIn kZ_9 kC_Md_isIn) rfl rfl rfl (by decide +kernel) ⟨(Nat.le_of_ble_eq_true rfl), (Nat.le_of_ble_eq_true rfl)⟩) ⟨ro_blind, ro_pre hK⟩ rfl rfl hl.1 rfl (lv_room (Nat.le_of_ble_eq_true rfl)) d_Md_stock_19 ⟨(Nat.le_of_ble_eq_true rfl), (Nat.le_of_ble_eq_true rfl)⟩) ?_
    refine W.eq (g2 := F0 m 22 ls [.int q3]) rfl ?_
    refine lv_if_eq (tgt := 48) hx hb d_Md_stock_22 (by decide) (fun c4 => ?_) (fun c4 => ?_)
    · have hf := op_t hf c4
      refine lv_iconst (v := 0) hx hb d_Md_stock_48 (by decide) ?_
      obtain rfl := Option.some.inj hf
      subst hQ
      subst hAe
      exact W.zret (v := 0) (ty := .boolean) hx hb hr (by decide) (fun t ht hW => ⟨⟨_, _, rfl, ⟨rfl, rfl⟩, by rw [ht]; exact hP, hD⟩, hS.F ht⟩) hS.2.2 d_Md_stock_49
    · have hf := op_e hf c4
      refine lv_iload hx hb d_Md_stock_25 (lv_at hl 3 rfl) ?_
      refine lv_i2l (v := p3.toInt64) hx hb d_Md_stock_27 rfl ?_
      refine lv_lconst (v := 0) hx hb d_Md_stock_28 (by decide) ?_
      refine lv_ldc2 (v := 20) hx hb hown (hts _ kK_9_162) d_Md_stock_29 ?_
      obtain ⟨q5, hq5, hf⟩ := op_b hf
      refine ro_go rfl (va_runS (As := [.long p3.toInt64, .long 0, .long 20]) (rest := []) ⟨hx, hb, hml, hown, hts⟩ (m_Md_isIn l dC dI tC p3.toInt64 0 20 q5 _  hq5) (cwS 3 hts (gd_S kM_9_128 kS_Md_isIn kZ_9 kC_Md_isIn) rfl rfl rfl (by decide +kernel) ⟨(Nat.le_of_ble_eq_true rfl), (Nat.le_of_ble_eq_true rfl)⟩) ⟨ro_blind, ro_pre hK⟩ rfl rfl hl.1 rfl (lv_room (Nat.le_of_ble_eq_true rfl)) d_Md_stock_32 ⟨(Nat.le_of_ble_eq_true rfl), (Nat.le_of_ble_eq_true rfl)⟩) ?_
      refine W.eq (g2 := F0 m 35 ls [.int q5]) rfl ?_
      refine lv_if_eq (tgt := 48) hx hb d_Md_stock_35 (by decide) (fun c6 => ?_) (fun c6 => ?_)
      · have hf := op_t hf c6
        refine lv_iconst (v := 0) hx hb d_Md_stock_48 (by decide) ?_
        obtain rfl := Option.some.inj hf
        subst hQ
        subst hAe
        exact W.zret (v := 0) (ty := .boolean) hx hb hr (by decide) (fun t ht hW => ⟨⟨_, _, rfl, ⟨rfl, rfl⟩, by rw [ht]; exact hP, hD⟩, hS.F ht⟩) hS.2.2 d_Md_stock_49
      · have hf := op_e hf c6
        refine lv_aload_n hx hb d_Md_stock_38 rfl (lv_at hl 0 rfl) ?_
        refine va_get (D := (dC, dI)) (ci := 9) (v := .ref (ad_md 12)) (C := RX9) (T := TX9) (N := 46) hx hb hts in_X9 hown hK hP 0 rfl rfl 15 (by decide) (hts _ kF_9_48) (fun _ h9 => h9) rfl d_Md_stock_39 ?_
        refine lv_iload_n hx hb d_Md_stock_42 rfl (lv_at hl 1 rfl) ?_
        obtain ⟨hi7, hf⟩ := op_if hf
        refine va_iald (f := md.2.1 7) hx hb hK hP 13 0 rfl rfl (ix_in hi7) d_Md_stock_43 ?_
        refine lv_iconst (v := 3) hx hb d_Md_stock_44 (by decide) ?_
        refine lv_icmp_ne (tgt := 50) hx hb d_Md_stock_45 (by decide) (fun c8 => ?_) (fun c8 => ?_)
        · have hf := op_e hf c8
          refine lv_aload_n hx hb d_Md_stock_50 rfl (lv_at hl 0 rfl) ?_
          refine va_get (D := (dC, dI)) (ci := 9) (v := .ref (ad_md 13)) (C := RX9) (T := TX9) (N := 46) hx hb hts in_X9 hown hK hP 0 rfl rfl 16 (by decide) (hts _ kF_9_51) (fun _ h9 => h9) rfl d_Md_stock_51 ?_
          refine lv_iconst (v := 3) hx hb d_Md_stock_54 (by decide) ?_
          refine lv_iload_n hx hb d_Md_stock_55 rfl (lv_at hl 1 rfl) ?_
          refine lv_imul hx hb d_Md_stock_56 ?_
          refine lv_aload_n hx hb d_Md_stock_57 rfl (lv_at hl 0 rfl) ?_
          refine va_get (D := (dC, dI)) (ci := 9) (v := .ref (ad_md 12)) (C := RX9) (T := TX9) (N := 46) hx hb hts in_X9 hown hK hP 0 rfl rfl 15 (by decide) (hts _ kF_9_48) (fun _ h9 => h9) rfl d_Md_stock_58 ?_
          refine lv_iload_n hx hb d_Md_stock_61 rfl (lv_at hl 1 rfl) ?_
          obtain ⟨hi9, hf⟩ := op_if hf
          refine va_iald (f := md.2.1 7) hx hb hK hP 13 0 rfl rfl (ix_in hi9) d_Md_stock_62 ?_
          refine lv_iadd hx hb d_Md_stock_63 ?_
          refine lv_lload_n hx hb d_Md_stock_64 rfl (lv_at hl 2 rfl) ?_
          obtain ⟨hi10, hf⟩ := op_if hf
          refine va_last (f := md.2.2 5) hx hb hK hP hD hS 14 1 rfl rfl (ix_in hi10) d_Md_stock_65 (fun H locs hP hD hS => ?_)
          rw [wu_Md_l5] at hP hD
          obtain ⟨md11, hmd11, hf⟩ := op_b hf
          have hP : va_P (dC, dI) vwCl (w_Md_ h_md ad_md tC md11) H := by rw [← Option.some.inj hmd11]; exact hP
          have hD : va_D A (w_Md_ h_md ad_md tC md11) := by rw [← Option.some.inj hmd11]; exact hD
          refine lv_aload_n hx hb d_Md_stock_66 rfl (lv_at hl 0 rfl) ?_
          refine va_get (D := (dC, dI)) (ci := 9) (v := .ref (ad_md 14)) (C := RX9) (T := TX9) (N := 46) hx hb hts in_X9 hown hK hP 0 rfl rfl 17 (by decide) (hts _ kF_9_54) (fun _ h9 => h9) rfl d_Md_stock_67 ?_
          refine lv_iconst (v := 3) hx hb d_Md_stock_70 (by decide) ?_
          refine lv_iload_n hx hb d_Md_stock_71 rfl (lv_at hl 1 rfl) ?_
          refine lv_imul hx hb d_Md_stock_72 ?_
          refine lv_aload_n hx hb d_Md_stock_73 rfl (lv_at hl 0 rfl) ?_
          refine va_get (D := (dC, dI)) (ci := 9) (v := .ref (ad_md 12)) (C := RX9) (T := TX9) (N := 46) hx hb hts in_X9 hown hK hP 0 rfl rfl 15 (by decide) (hts _ kF_9_48) (fun _ h9 => h9) rfl d_Md_stock_74 ?_
          refine lv_iload_n hx hb d_Md_stock_77 rfl (lv_at hl 1 rfl) ?_
          obtain ⟨hi12, hf⟩ := op_if hf
          refine va_iald (f := md11.2.1 7) hx hb hK hP 13 0 rfl rfl (ix_in hi12) d_Md_stock_78 ?_
          refine lv_iadd hx hb d_Md_stock_79 ?_
          refine lv_iload hx hb d_Md_stock_80 (lv_at hl 3 rfl) ?_
          obtain ⟨hi13, hf⟩ := op_if hf
          refine va_iast (f := md11.2.1 8) hx hb hK hP hD hS 15 0 rfl rfl (ix_in hi13) d_Md_stock_82 (fun H locs hP hD hS => ?_)
          rw [wu_Md_a8] at hP hD
          obtain ⟨md14, hmd14, hf⟩ := op_b hf
          have hP : va_P (dC, dI) vwCl (w_Md_ h_md ad_md tC md14) H := by rw [← Option.some.inj hmd14]; exact hP
          have hD : va_D A (w_Md_ h_md ad_md tC md14) := by rw [← Option.some.inj hmd14]; exact hD
          refine lv_aload_n hx hb d_Md_stock_83 rfl (lv_at hl 0 rfl) ?_
          refine va_get (D := (dC, dI)) (ci := 9) (v := .ref (ad_md 12)) (C := RX9) (T := TX9) (N := 46) hx hb hts in_X9 hown hK hP 0 rfl rfl 15 (by decide) (hts _ kF_9_48) (fun _ h9 => h9) rfl d_Md_stock_84 ?_
          refine lv_iload_n hx hb d_Md_stock_87 rfl (lv_at hl 1 rfl) ?_
          refine lv_dup2_11 hx hb d_Md_stock_88 rfl rfl ?_
          obtain ⟨hi15, hf⟩ := op_if hf
          refine va_iald (f := md14.2.1 7) hx hb hK hP 13 0 rfl rfl (ix_in hi15) d_Md_stock_89 ?_
          refine lv_iconst (v := 1) hx hb d_Md_stock_90 (by decide) ?_
          refine lv_iadd hx hb d_Md_stock_91 ?_
          obtain ⟨hi16, hf⟩ := op_if hf
          refine va_iast (f := md14.2.1 7) hx hb hK hP hD hS 13 0 rfl rfl (ix_in hi16) d_Md_stock_92 (fun H locs hP hD hS => ?_)
          rw [wu_Md_a7] at hP hD
          obtain ⟨md17, hmd17, hf⟩ := op_b hf
          have hP : va_P (dC, dI) vwCl (w_Md_ h_md ad_md tC md17) H := by rw [← Option.some.inj hmd17]; exact hP
          have hD : va_D A (w_Md_ h_md ad_md tC md17) := by rw [← Option.some.inj hmd17]; exact hD
          refine lv_aload_n hx hb d_Md_stock_93 rfl (lv_at hl 0 rfl) ?_
          refine lv_iconst (v := 0) hx hb d_Md_stock_94 (by decide) ?_
          refine va_put (D := (dC, dI)) (ci := 9) (v := .int 0) (ty := .boolean) (C := RX9) (T := TX9) (N := 46) hx hb hts in_X9 tyX9 tyX9_ok nmX9 hown hK hP hD hS 0 (fs := [.ref (ad_md 0), .int (md17.1 0), .int (md17.1 1), .ref (ad_md 1), .ref (ad_md 2), .ref (ad_md 3), .int (md17.1 2), .ref (ad_md 4), .ref (ad_md 5), .ref (ad_md 6), .ref (ad_md 7), .ref (ad_md 8), .ref (ad_md 9), .ref (ad_md 10), .ref (ad_md 11), .ref (ad_md 12), .ref (ad_md 13), .ref (ad_md 14), .ref (ad_md 15), .int (md17.1 3), .ref (ad_md 16), .ref (ad_md 17), .ref (ad_md 18), .ref (ad_md 19), .ref (ad_md 20), .ref (ad_md 21), .ref (ad_md 22), .int (md17.1 4), .int (md17.1 5), .ref (ad_md 23), .ref (ad_md 24), .ref (ad_md 25), .ref (ad_md 26), .ref (ad_md 27), .int (md17.1 6), .int (md17.1 7), .int (md17.1 8), .ref (ad_md 28), .ref (ad_md 29), .ref (ad_md 30), .ref (ad_md 31), .ref (ad_md 32), .ref (ad_md 33), .ref (ad_md 34), .ref (ad_md 35), .int (md17.1 9)]) rfl rfl 27 (by decide) (hts _ kF_9_148) (fun _ h9 => h9) rfl (by decide +kernel) (by decide) (by decide) (Nat.le_of_ble_eq_true rfl) d_Md_stock_95 (fun H locs hP hD hS => ?_)
          rw [wu_Md_s4] at hP hD
          obtain ⟨md18, hmd18, hf⟩ := op_b hf
          have hP : va_P (dC, dI) vwCl (w_Md_ h_md ad_md tC md18) H := by rw [← Option.some.inj hmd18]; exact hP
          have hD : va_D A (w_Md_ h_md ad_md tC md18) := by rw [← Option.some.inj hmd18]; exact hD
          refine lv_iconst (v := 1) hx hb d_Md_stock_98 (by decide) ?_
          obtain rfl := Option.some.inj hf
          subst hQ
          subst hAe
          exact W.zret (v := 1) (ty := .boolean) hx hb hr (by decide) (fun t ht hW => ⟨⟨_, _, rfl, ⟨rfl, rfl⟩, by rw [ht]; exact hP, hD⟩, hS.F ht⟩) hS.2.2 d_Md_stock_99
        · have hf := op_t hf c8
          refine lv_iconst (v := 0) hx hb d_Md_stock_48 (by decide) ?_
          obtain rfl := Option.some.inj hf
          subst hQ
          subst hAe
          exact W.zret (v := 0) (ty := .boolean) hx hb hr (by decide) (fun t ht hW => ⟨⟨_, _, rfl, ⟨rfl, rfl⟩, by rw [ht]; exact hP, hD⟩, hS.F ht⟩) hS.2.2 d_Md_stock_49
def l_Md_sumOf_5 : Nat → Int32 → Int64 → Int32 → MS → Option (Int64 × Int32)
  | 0, _, _, _, _ => none
  | n + 1, x1, x2, x4, md => (if 6 ≤ x4 then some (x2, x4) else if ix ((6 * x1) + x4) 72 then (some (x2 + ((md.2.2 1) ((6 * x1) + x4).toNatClampNeg)) : Option Int64).bind fun v4 => l_Md_sumOf_5 n x1 v4 (x4 + 1) md else none)
def f_Md_sumOf (md : MS) (p1 : Int32) : Option (Int64) := (l_Md_sumOf_5 fu p1 0 0 md).bind fun q1 => some q1.1
def rm_Md_sumOf : Room := { frames := 0, cells := 0, slots := 0, locals := 0 }
set_option maxHeartbeats 4000000 in
set_option maxRecDepth 100000 in
theorem m_Md_sumOf (l : Launch) (dC : Nat → ClassId) (dI : Nat → Nat → Nat) (tC : Nat → ClassId) (h_md : Nat) (ad_md : Nat → Nat) (md : MS) (p1 : Int32) (R : Int64) (H : Heap) (hP : va_P (dC, dI) vwCl (w_Md_ h_md ad_md tC md) H) (hf : f_Md_sumOf md p1 = some R) : Met l y_Md_sumOf w_Md_sumOf rm_Md_sumOf (roP (dC, dI) tC H [.ref h_md, .int p1]) (roQ H (some (.long R))) 0 0 (fun _ => False) := by
  refine Met.ofW (cc := c_Md_sumOf) (maxL := 5) (ret := (some (.long))) (by decide) rfl ?_
  intro p e s m args below meth c s₁ B hml hv
  obtain ⟨hav, hH, hK⟩ := hv
  have hx := B.exec
  have hb := B.bytes
  have hr := B.returns
  have hts : ∀ w ∈ gw, w.before args s = true := fun w h => atoms_spec (ws := w_Md_sumOf) B.pre w (List.mem_cons_of_mem _ h)
  have hown : s.vm.findClass RX9 = some m.cls := findClass_of_methodNamed B.named
  have hlocks := B.notSynchronized
  subst hH
  refine q_w (R := rm_Md_sumOf) (fun Q hQ => ?_)
  refine en_w (av := [.ref h_md, .int p1]) hav (Nat.le_of_ble_eq_true rfl) (fun ls hl => ?_)
  have hl : lv_has ls 5 [(0, .ref h_md), (1, .int p1)] := hl
  unfold f_Md_sumOf at hf
  refine lv_lconst (v := 0) hx hb d_Md_sumOf_0 (by decide) ?_
  refine lv_lstore_n (lv' := [(2, .long 0), (0, .ref h_md), (1, .int p1)]) hx hb d_Md_sumOf_1 rfl hl (by decide) rfl (fun ls hl => ?_)
  refine lv_iconst (v := 0) hx hb d_Md_sumOf_2 (by decide) ?_
  refine lv_istore (lv' := [(4, .int 0), (2, .long 0), (0, .ref h_md), (1, .int p1)]) hx hb d_Md_sumOf_3 hl (by decide) rfl (fun ls hl => ?_)
  have lp_5 : ∀ (n : Nat) (x1 : Int32) (x2 : Int64) (x4 : Int32) (Rl : Int64 × Int32), l_Md_sumOf_5 n x1 x2 x4 md = some Rl → ∀ ls : Array Slot, lv_has ls 5 [(4, .int x4), (2, .long x2), (0, .ref h_md), (1, .int x1)] → (∀ ls : Array Slot, lv_has ls 5 [(4, .int Rl.2), (2, .long Rl.1), (0, .ref h_md), (1, .int x1)] → W p l e rm_Md_sumOf s m args below meth c s.heap [] 0 0 Q (F0 m 33 ls [])) → W p l e rm_Md_sumOf s m args below meth c s.heap [] 0 0 Q (F0 m 5 ls []) := by
    intro n
    induction n with
    | zero => intro x1 x2 x4 Rl hf; cases hf
    | succ n ih_5 =>
      intro x1 x2 x4 Rl hf ls hl Kk
      rw [l_Md_sumOf_5] at hf
      refine lv_iload hx hb d_Md_sumOf_5 (lv_at hl 0 rfl) ?_
      refine lv_bipush (v := 6) hx hb d_Md_sumOf_7 (by decide) ?_
      refine lv_icmp_ge (tgt := 33) hx hb d_Md_sumOf_9 (by decide) (fun c2 => ?_) (fun c2 => ?_)
      · have hf := op_t hf c2
        obtain rfl := Option.some.inj hf
        exact Kk _ (lv_sub hl [0, 1, 2, 3] rfl)
      · have hf := op_e hf c2
        refine lv_lload_n hx hb d_Md_sumOf_12 rfl (lv_at hl 1 rfl) ?_
        refine lv_aload_n hx hb d_Md_sumOf_13 rfl (lv_at hl 2 rfl) ?_
        refine va_get (D := (dC, dI)) (ci := 9) (v := .ref (ad_md 7)) (C := RX9) (T := TX9) (N := 46) hx hb hts in_X9 hown hK hP 0 rfl rfl 10 (by decide) (hts _ kF_9_32) (fun _ h9 => h9) rfl d_Md_sumOf_14 ?_
        refine lv_bipush (v := 6) hx hb d_Md_sumOf_17 (by decide) ?_
        refine lv_iload_n hx hb d_Md_sumOf_19 rfl (lv_at hl 3 rfl) ?_
        refine lv_imul hx hb d_Md_sumOf_20 ?_
        refine lv_iload hx hb d_Md_sumOf_21 (lv_at hl 0 rfl) ?_
        refine lv_iadd hx hb d_Md_sumOf_23 ?_
        obtain ⟨hi3, hf⟩ := op_if hf
        refine va_lald (f := md.2.2 1) hx hb hK hP 8 1 rfl rfl (ix_in hi3) d_Md_sumOf_24 ?_
        refine lv_ladd hx hb d_Md_sumOf_25 ?_
        obtain ⟨v4, hv4, hf⟩ := op_b hf
        refine rw_l (y := v4) (Option.some.inj hv4) ?_
        refine lv_lstore_n (lv' := [(2, .long v4), (4, .int x4), (0, .ref h_md), (1, .int x1)]) hx hb d_Md_sumOf_26 rfl hl (by decide) rfl (fun ls hl => ?_)
        refine lv_iinc (v := x4 + 1) (lv' := [(4, .int (x4 + 1)), (2, .long v4), (0, .ref h_md), (1, .int x1)]) hx hb d_Md_sumOf_27 hl (k := 1) rfl rfl (by decide) rfl (fun ls hl => ?_)
        refine lv_goto (tgt := 5) hx hb d_Md_sumOf_30 (by decide) ?_
        exact ih_5 x1 v4 (x4 + 1) Rl hf _ (lv_sub hl [0, 1, 2, 3] rfl) Kk
  obtain ⟨q1, hq1, hf⟩ := op_b hf
  refine lp_5 fu p1 0 0 q1 hq1 _ (lv_sub hl [0, 1, 2, 3] rfl) ?_
  intro ls hl
  refine lv_lload_n hx hb d_Md_sumOf_33 rfl (lv_at hl 1 rfl) ?_
  obtain rfl := Option.some.inj hf
  subst hQ
  exact W.lret (v := q1.1) hx hb hr (fun t ht hW => ⟨rfl, ht⟩) (fun q h => by cases h) d_Md_sumOf_34
def l_Md_lengthOf_9 : Nat → Int32 → Int64 → Int32 → MS → Option (Int64 × Int32)
  | 0, _, _, _, _ => none
  | n + 1, x1, x2, x4, md => if ix x1 12 then if ix ((md.2.1 3) x1.toNatClampNeg) 10 then (if ((md.2.1 1) ((md.2.1 3) x1.toNatClampNeg).toNatClampNeg) ≤ (x4 + 1) then some (x2, x4) else if ix x1 12 then if ix ((6 * ((md.2.1 3) x1.toNatClampNeg)) + x4) 60 then (some ((md.2.1 2) ((6 * ((md.2.1 3) x1.toNatClampNeg)) + x4).toNatClampNeg) : Option Int32).bind fun v8 => if ix x1 12 then if ix ((md.2.1 4) x1.toNatClampNeg) 41 then ((if v8 = 3 then some (2) else some (1)) : Option (Int64)).bind fun q12 => (some (x2 - (((md.2.2 0) ((md.2.1 4) x1.toNatClampNeg).toNatClampNeg) * q12)) : Option Int64).bind fun v13 => l_Md_lengthOf_9 n x1 v13 (x4 + 1) md else none else none else none else none) else none else none
def f_Md_lengthOf (md : MS) (p1 : Int32) : Option (Int64) := (f_Md_sumOf md p1).bind fun q1 => (l_Md_lengthOf_9 fu p1 q1 0 md).bind fun q2 => (if 0 ≤ q2.1 then some q2.1 else some 0)
def rm_Md_lengthOf : Room := { frames := 1, cells := 0, slots := 0, locals := 24 }
set_option maxHeartbeats 4000000 in
set_option maxRecDepth 100000 in
theorem m_Md_lengthOf (l : Launch) (dC : Nat → ClassId) (dI : Nat → Nat → Nat) (tC : Nat → ClassId) (h_md : Nat) (ad_md : Nat → Nat) (md : MS) (p1 : Int32) (R : Int64) (H : Heap) (hP : va_P (dC, dI) vwCl (w_Md_ h_md ad_md tC md) H) (hf : f_Md_lengthOf md p1 = some R) : Met l y_Md_lengthOf w_Md_lengthOf rm_Md_lengthOf (roP (dC, dI) tC H [.ref h_md, .int p1]) (roQ H (some (.long R))) 0 0 (fun _ => False) := by
  refine Met.ofW (cc := c_Md_lengthOf) (maxL := 6) (ret := (some (.long))) (by decide) rfl ?_
  intro p e s m args below meth c s₁ B hml hv
  obtain ⟨hav, hH, hK⟩ := hv
  have hx := B.exec
  have hb := B.bytes
  have hr := B.returns
  have hts : ∀ w ∈ gw, w.before args s = true := fun w h => atoms_spec (ws := w_Md_lengthOf) B.pre w (List.mem_cons_of_mem _ h)
  have hown : s.vm.findClass RX9 = some m.cls := findClass_of_methodNamed B.named
  have hlocks := B.notSynchronized
  subst hH
  refine q_w (R := rm_Md_lengthOf) (fun Q hQ => ?_)
  refine en_w (av := [.ref h_md, .int p1]) hav (Nat.le_of_ble_eq_true rfl) (fun ls hl => ?_)
  have hl : lv_has ls 6 [(0, .ref h_md), (1, .int p1)] := hl
  unfold f_Md_lengthOf at hf
  refine lv_aload_n hx hb d_Md_lengthOf_0 rfl (lv_at hl 0 rfl) ?_
  refine lv_iload_n hx hb d_Md_lengthOf_1 rfl (lv_at hl 1 rfl) ?_
  obtain ⟨q1, hq1, hf⟩ := op_b hf
  refine ro_go rfl (va_runV (As := [.int p1]) (rest := []) ⟨hx, hb, hml, hown, hts⟩ (m_Md_sumOf l dC dI tC h_md ad_md md p1 q1 _ hP hq1) (cwV 1 hts (gd_V kM_9_164 kI_Md_sumOf kV_Md_sumOf kZ_9 kC_Md_sumOf) rfl rfl rfl (by decide +kernel) ⟨(Nat.le_of_ble_eq_true rfl), (Nat.le_of_ble_eq_true rfl)⟩) ⟨ro_blind, va_recv hK hP (ci := 9) (q0 := 0) rfl rfl, ro_pre hK⟩ rfl rfl hl.1 rfl (lv_room (Nat.le_of_ble_eq_true rfl)) d_Md_lengthOf_2 ⟨(Nat.le_of_ble_eq_true rfl), (Nat.le_of_ble_eq_true rfl)⟩) ?_
  refine W.eq (g2 := F0 m 5 ls [.long q1]) rfl ?_
  refine lv_lstore_n (lv' := [(2, .long q1), (0, .ref h_md), (1, .int p1)]) hx hb d_Md_lengthOf_5 rfl hl (by decide) rfl (fun ls hl => ?_)
  refine lv_iconst (v := 0) hx hb d_Md_lengthOf_6 (by decide) ?_
  refine lv_istore (lv' := [(4, .int 0), (2, .long q1), (0, .ref h_md), (1, .int p1)]) hx hb d_Md_lengthOf_7 hl (by decide) rfl (fun ls hl => ?_)
  have lp_9 : ∀ (n : Nat) (x1 : Int32) (x2 : Int64) (x4 : Int32) (Rl : Int64 × Int32), l_Md_lengthOf_9 n x1 x2 x4 md = some Rl → ∀ ls : Array Slot, lv_has ls 6 [(4, .int x4), (2, .long x2), (0, .ref h_md), (1, .int x1)] → (∀ ls : Array Slot, lv_has ls 6 [(4, .int Rl.2), (2, .long Rl.1), (0, .ref h_md), (1, .int x1)] → W p l e rm_Md_lengthOf s m args below meth c s.heap [] 0 0 Q (F0 m 80 ls [])) → W p l e rm_Md_lengthOf s m args below meth c s.heap [] 0 0 Q (F0 m 9 ls []) := by
    intro n
    induction n with
    | zero => intro x1 x2 x4 Rl hf; cases hf
    | succ n ih_9 =>
      intro x1 x2 x4 Rl hf ls hl Kk
      rw [l_Md_lengthOf_9] at hf
      refine lv_iload hx hb d_Md_lengthOf_9 (lv_at hl 0 rfl) ?_
      refine lv_iconst (v := 1) hx hb d_Md_lengthOf_11 (by decide) ?_
      refine lv_iadd hx hb d_Md_lengthOf_12 ?_
      refine lv_aload_n hx hb d_Md_lengthOf_13 rfl (lv_at hl 2 rfl) ?_
      refine va_get (D := (dC, dI)) (ci := 9) (v := .ref (ad_md 1)) (C := RX9) (T := TX9) (N := 46) hx hb hts in_X9 hown hK hP 0 rfl rfl 3 (by decide) (hts _ kF_9_13) (fun _ h9 => h9) rfl d_Md_lengthOf_14 ?_
      refine lv_aload_n hx hb d_Md_lengthOf_17 rfl (lv_at hl 2 rfl) ?_
      refine va_get (D := (dC, dI)) (ci := 9) (v := .ref (ad_md 4)) (C := RX9) (T := TX9) (N := 46) hx hb hts in_X9 hown hK hP 0 rfl rfl 7 (by decide) (hts _ kF_9_23) (fun _ h9 => h9) rfl d_Md_lengthOf_18 ?_
      refine lv_iload_n hx hb d_Md_lengthOf_21 rfl (lv_at hl 3 rfl) ?_
      obtain ⟨hi3, hf⟩ := op_if hf
      refine va_iald (f := md.2.1 3) hx hb hK hP 5 0 rfl rfl (ix_in hi3) d_Md_lengthOf_22 ?_
      obtain ⟨hi4, hf⟩ := op_if hf
      refine va_iald (f := md.2.1 1) hx hb hK hP 2 0 rfl rfl (ix_in hi4) d_Md_lengthOf_23 ?_
      refine lv_icmp_ge (tgt := 80) hx hb d_Md_lengthOf_24 (by decide) (fun c5 => ?_) (fun c5 => ?_)
      · have hf := op_t hf c5
        obtain rfl := Option.some.inj hf
        exact Kk _ (lv_sub hl [0, 1, 2, 3] rfl)
      · have hf := op_e hf c5
        refine lv_aload_n hx hb d_Md_lengthOf_27 rfl (lv_at hl 2 rfl) ?_
        refine va_get (D := (dC, dI)) (ci := 9) (v := .ref (ad_md 2)) (C := RX9) (T := TX9) (N := 46) hx hb hts in_X9 hown hK hP 0 rfl rfl 4 (by decide) (hts _ kF_9_16) (fun _ h9 => h9) rfl d_Md_lengthOf_28 ?_
        refine lv_bipush (v := 6) hx hb d_Md_lengthOf_31 (by decide) ?_
        refine lv_aload_n hx hb d_Md_lengthOf_33 rfl (lv_at hl 2 rfl) ?_
        refine va_get (D := (dC, dI)) (ci := 9) (v := .ref (ad_md 4)) (C := RX9) (T := TX9) (N := 46) hx hb hts in_X9 hown hK hP 0 rfl rfl 7 (by decide) (hts _ kF_9_23) (fun _ h9 => h9) rfl d_Md_lengthOf_34 ?_
        refine lv_iload_n hx hb d_Md_lengthOf_37 rfl (lv_at hl 3 rfl) ?_
        obtain ⟨hi6, hf⟩ := op_if hf
        refine va_iald (f := md.2.1 3) hx hb hK hP 5 0 rfl rfl (ix_in hi6) d_Md_lengthOf_38 ?_
        refine lv_imul hx hb d_Md_lengthOf_39 ?_
        refine lv_iload hx hb d_Md_lengthOf_40 (lv_at hl 0 rfl) ?_
        refine lv_iadd hx hb d_Md_lengthOf_42 ?_
        obtain ⟨hi7, hf⟩ := op_if hf
        refine va_iald (f := md.2.1 2) hx hb hK hP 3 0 rfl rfl (ix_in hi7) d_Md_lengthOf_43 ?_
        obtain ⟨v8, hv8, hf⟩ := op_b hf
        refine rw_i (y := v8) (Option.some.inj hv8) ?_
        refine lv_istore (lv' := [(5, .int v8), (4, .int x4), (2, .long x2), (0, .ref h_md), (1, .int x1)]) hx hb d_Md_lengthOf_44 hl (by decide) rfl (fun ls hl => ?_)
        refine lv_lload_n hx hb d_Md_lengthOf_46 rfl (lv_at hl 2 rfl) ?_
        refine lv_aload_n hx hb d_Md_lengthOf_47 rfl (lv_at hl 3 rfl) ?_
        refine va_get (D := (dC, dI)) (ci := 9) (v := .ref (ad_md 3)) (C := RX9) (T := TX9) (N := 46) hx hb hts in_X9 hown hK hP 0 rfl rfl 5 (by decide) (hts _ kF_9_19) (fun _ h9 => h9) rfl d_Md_lengthOf_48 ?_
        refine lv_aload_n hx hb d_Md_lengthOf_51 rfl (lv_at hl 3 rfl) ?_
        refine va_get (D := (dC, dI)) (ci := 9) (v := .ref (ad_md 5)) (C := RX9) (T := TX9) (N := 46) hx hb hts in_X9 hown hK hP 0 rfl rfl 8 (by decide) (hts _ kF_9_26) (fun _ h9 => h9) rfl d_Md_lengthOf_52 ?_
        refine lv_iload_n hx hb d_Md_lengthOf_55 rfl (lv_at hl 4 rfl) ?_
        obtain ⟨hi9, hf⟩ := op_if hf
        refine va_iald (f := md.2.1 4) hx hb hK hP 6 0 rfl rfl (ix_in hi9) d_Md_lengthOf_56 ?_
        obtain ⟨hi10, hf⟩ := op_if hf
        refine va_lald (f := md.2.2 0) hx hb hK hP 4 1 rfl rfl (ix_in hi10) d_Md_lengthOf_57 ?_
        refine lv_iload hx hb d_Md_lengthOf_58 (lv_at hl 0 rfl) ?_
        refine lv_iconst (v := 3) hx hb d_Md_lengthOf_60 (by decide) ?_
        obtain ⟨q12, hq12, hf⟩ := op_b hf
        have J_61 : ∀ ls : Array Slot, lv_has ls 6 [(5, .int v8), (4, .int x4), (2, .long x2), (0, .ref h_md), (1, .int x1)] → W p l e rm_Md_lengthOf s m args below meth c s.heap [] 0 0 Q (F0 m 71 ls [.long q12, .long ((md.2.2 0) ((md.2.1 4) x1.toNatClampNeg).toNatClampNeg), .long x2]) := by
          intro ls hl
          refine lv_lmul hx hb d_Md_lengthOf_71 ?_
          refine lv_lsub hx hb d_Md_lengthOf_72 ?_
          obtain ⟨v13, hv13, hf⟩ := op_b hf
          refine rw_l (y := v13) (Option.some.inj hv13) ?_
          refine lv_lstore_n (lv' := [(2, .long v13), (5, .int v8), (4, .int x4), (0, .ref h_md), (1, .int x1)]) hx hb d_Md_lengthOf_73 rfl hl (by decide) rfl (fun ls hl => ?_)
          refine lv_iinc (v := x4 + 1) (lv' := [(4, .int (x4 + 1)), (2, .long v13), (5, .int v8), (0, .ref h_md), (1, .int x1)]) hx hb d_Md_lengthOf_74 hl (k := 2) rfl rfl (by decide) rfl (fun ls hl => ?_)
          refine lv_goto (tgt := 9) hx hb d_Md_lengthOf_77 (by decide) ?_
          exact ih_9 x1 v13 (x4 + 1) Rl hf _ (lv_sub hl [0, 1, 3, 4] rfl) Kk
        clear hf
        have hf := hq12
        clear hq12
        refine lv_icmp_ne (tgt := 70) hx hb d_Md_lengthOf_61 (by decide) (fun c11 => ?_) (fun c11 => ?_)
        · have hf := op_e hf c11
          refine lv_lconst (v := 1) hx hb d_Md_lengthOf_70 (by decide) ?_
          obtain rfl := Option.some.inj hf
          exact J_61 _ (lv_sub hl [0, 1, 2, 3, 4] rfl)
        · have hf := op_t hf c11
          refine lv_ldc2 (v := 2) hx hb hown (hts _ kK_9_168) d_Md_lengthOf_64 ?_
          refine lv_goto (tgt := 71) hx hb d_Md_lengthOf_67 (by decide) ?_
          obtain rfl := Option.some.inj hf
          exact J_61 _ (lv_sub hl [0, 1, 2, 3, 4] rfl)
  obtain ⟨q2, hq2, hf⟩ := op_b hf
  refine lp_9 fu p1 q1 0 q2 hq2 _ (lv_sub hl [0, 1, 2, 3] rfl) ?_
  intro ls hl
  refine lv_lload_n hx hb d_Md_lengthOf_80 rfl (lv_at hl 1 rfl) ?_
  refine lv_lconst (v := 0) hx hb d_Md_lengthOf_81 (by decide) ?_
  refine W.lcmp hx hb d_Md_lengthOf_82 ?_
  refine lv_if_ge (tgt := 90) hx hb d_Md_lengthOf_83 (by decide) (fun c14 => ?_) (fun c14 => ?_)
  · have c14 := (lg_cmp_ge _ _).mp c14
    have hf := op_t hf c14
    refine lv_lload_n hx hb d_Md_lengthOf_90 rfl (lv_at hl 1 rfl) ?_
    obtain rfl := Option.some.inj hf
    subst hQ
    exact W.lret (v := q2.1) hx hb hr (fun t ht hW => ⟨rfl, ht⟩) (fun q h => by cases h) d_Md_lengthOf_91
  · have c14 := fun h9 => c14 ((lg_cmp_ge _ _).mpr h9)
    have hf := op_e hf c14
    refine lv_lconst (v := 0) hx hb d_Md_lengthOf_86 (by decide) ?_
    refine lv_goto (tgt := 91) hx hb d_Md_lengthOf_87 (by decide) ?_
    obtain rfl := Option.some.inj hf
    subst hQ
    exact W.lret (v := 0) hx hb hr (fun t ht hW => ⟨rfl, ht⟩) (fun q h => by cases h) d_Md_lengthOf_91
def f_Md_length (md : MS) (p1 : Int32) (p2 : Int32) : Option (Int64) := (f_Md_isLine md p1).bind fun q1 => (if q1 = 0 then some (-1) else (if p2 < 0 then some (-1) else (if p2 ≤ 4 then (if p2 = 0 then (f_Md_lengthOf md p1).bind fun q6 => some q6 else (if p2 = 1 then if ix p1 12 then some (((md.2.1 5) p1.toNatClampNeg).toInt64) else none else (if p2 = 2 then (f_Md_sumOf md p1).bind fun q10 => some q10 else (if p2 = 3 then if ix p1 12 then some (((md.2.1 4) p1.toNatClampNeg).toInt64) else none else if ix p1 12 then some (((md.2.1 3) p1.toNatClampNeg).toInt64) else none)))) else some (-1))))
def rm_Md_length : Room := { frames := 2, cells := 0, slots := 0, locals := 49 }
set_option maxHeartbeats 4000000 in
set_option maxRecDepth 100000 in
theorem m_Md_length (l : Launch) (dC : Nat → ClassId) (dI : Nat → Nat → Nat) (tC : Nat → ClassId) (h_md : Nat) (ad_md : Nat → Nat) (md : MS) (p1 : Int32) (p2 : Int32) (R : Int64) (H : Heap) (hP : va_P (dC, dI) vwCl (w_Md_ h_md ad_md tC md) H) (hf : f_Md_length md p1 p2 = some R) : Met l y_Md_length w_Md_length rm_Md_length (roP (dC, dI) tC H [.ref h_md, .int p1, .int p2]) (roQ H (some (.long R))) 0 0 (fun _ => False) := by
  refine Met.ofW (cc := c_Md_length) (maxL := 3) (ret := (some (.long))) (by decide) rfl ?_
  intro p e s m args below meth c s₁ B hml hv
  obtain ⟨hav, hH, hK⟩ := hv
  have hx := B.exec
  have hb := B.bytes
  have hr := B.returns
  have hts : ∀ w ∈ gw, w.before args s = true := fun w h => atoms_spec (ws := w_Md_length) B.pre w (List.mem_cons_of_mem _ h)
  have hown : s.vm.findClass RX9 = some m.cls := findClass_of_methodNamed B.named
  have hlocks := B.notSynchronized
  subst hH
  refine q_w (R := rm_Md_length) (fun Q hQ => ?_)
  refine en_w (av := [.ref h_md, .int p1, .int p2]) hav (Nat.le_of_ble_eq_true rfl) (fun ls hl => ?_)
  have hl : lv_has ls 3 [(0, .ref h_md), (1, .int p1), (2, .int p2)] := hl
  unfold f_Md_length at hf
  refine lv_aload_n hx hb d_Md_length_0 rfl (lv_at hl 0 rfl) ?_
  refine lv_iload_n hx hb d_Md_length_1 rfl (lv_at hl 1 rfl) ?_
  obtain ⟨q1, hq1, hf⟩ := op_b hf
  refine ro_go rfl (va_runV (As := [.int p1]) (rest := []) ⟨hx, hb, hml, hown, hts⟩ (m_Md_isLine l dC dI tC h_md ad_md md p1 q1 _ hP hq1) (cwV 1 hts (gd_V kM_9_154 kI_Md_isLine kV_Md_isLine kZ_9 kC_Md_isLine) rfl rfl rfl (by decide +kernel) ⟨(Nat.le_of_ble_eq_true rfl), (Nat.le_of_ble_eq_true rfl)⟩) ⟨ro_blind, va_recv hK hP (ci := 9) (q0 := 0) rfl rfl, ro_pre hK⟩ rfl rfl hl.1 rfl (lv_room (Nat.le_of_ble_eq_true rfl)) d_Md_length_2 ⟨(Nat.le_of_ble_eq_true rfl), (Nat.le_of_ble_eq_true rfl)⟩) ?_
  refine W.eq (g2 := F0 m 5 ls [.int q1]) rfl ?_
  refine lv_if_eq (tgt := 17) hx hb d_Md_length_5 (by decide) (fun c2 => ?_) (fun c2 => ?_)
  · have hf := op_t hf c2
    refine lv_ldc2 (v := (-1)) hx hb hown (hts _ kK_9_170) d_Md_length_17 ?_
    obtain rfl := Option.some.inj hf
    subst hQ
    exact W.lret (v := (-1)) hx hb hr (fun t ht hW => ⟨rfl, ht⟩) (fun q h => by cases h) d_Md_length_20
  · have hf := op_e hf c2
    refine lv_iload_n hx hb d_Md_length_8 rfl (lv_at hl 2 rfl) ?_
    refine lv_if_lt (tgt := 17) hx hb d_Md_length_9 (by decide) (fun c3 => ?_) (fun c3 => ?_)
    · have hf := op_t hf c3
      refine lv_ldc2 (v := (-1)) hx hb hown (hts _ kK_9_170) d_Md_length_17 ?_
      obtain rfl := Option.some.inj hf
      subst hQ
      exact W.lret (v := (-1)) hx hb hr (fun t ht hW => ⟨rfl, ht⟩) (fun q h => by cases h) d_Md_length_20
    · have hf := op_e hf c3
      refine lv_iload_n hx hb d_Md_length_12 rfl (lv_at hl 2 rfl) ?_
      refine lv_iconst (v := 4) hx hb d_Md_length_13 (by decide) ?_
      refine lv_icmp_le (tgt := 21) hx hb d_Md_length_14 (by decide) (fun c4 => ?_) (fun c4 => ?_)
      · have hf := op_t hf c4
        refine lv_iload_n hx hb d_Md_length_21 rfl (lv_at hl 2 rfl) ?_
        refine lv_if_ne (tgt := 33) hx hb d_Md_length_22 (by decide) (fun c5 => ?_) (fun c5 => ?_)
        · have hf := op_e hf c5
          refine lv_iload_n hx hb d_Md_length_33 rfl (lv_at hl 2 rfl) ?_
          refine lv_iconst (v := 1) hx hb d_Md_length_34 (by decide) ?_
          refine lv_icmp_ne (tgt := 48) hx hb d_Md_length_35 (by decide) (fun c7 => ?_) (fun c7 => ?_)
          · have hf := op_e hf c7
            refine lv_iload_n hx hb d_Md_length_48 rfl (lv_at hl 2 rfl) ?_
            refine lv_iconst (v := 2) hx hb d_Md_length_49 (by decide) ?_
            refine lv_icmp_ne (tgt := 61) hx hb d_Md_length_50 (by decide) (fun c9 => ?_) (fun c9 => ?_)
            · have hf := op_e hf c9
              refine lv_iload_n hx hb d_Md_length_61 rfl (lv_at hl 2 rfl) ?_
              refine lv_iconst (v := 3) hx hb d_Md_length_62 (by decide) ?_
              refine lv_icmp_ne (tgt := 76) hx hb d_Md_length_63 (by decide) (fun c11 => ?_) (fun c11 => ?_)
              · have hf := op_e hf c11
                refine lv_aload_n hx hb d_Md_length_76 rfl (lv_at hl 0 rfl) ?_
                refine va_get (D := (dC, dI)) (ci := 9) (v := .ref (ad_md 4)) (C := RX9) (T := TX9) (N := 46) hx hb hts in_X9 hown hK hP 0 rfl rfl 7 (by decide) (hts _ kF_9_23) (fun _ h9 => h9) rfl d_Md_length_77 ?_
                refine lv_iload_n hx hb d_Md_length_80 rfl (lv_at hl 1 rfl) ?_
                obtain ⟨hi13, hf⟩ := op_if hf
                refine va_iald (f := md.2.1 3) hx hb hK hP 5 0 rfl rfl (ix_in hi13) d_Md_length_81 ?_
                refine lv_i2l (v := ((md.2.1 3) p1.toNatClampNeg).toInt64) hx hb d_Md_length_82 rfl ?_
                obtain rfl := Option.some.inj hf
                subst hQ
                exact W.lret (v := ((md.2.1 3) p1.toNatClampNeg).toInt64) hx hb hr (fun t ht hW => ⟨rfl, ht⟩) (fun q h => by cases h) d_Md_length_83
              · have hf := op_t hf c11
                refine lv_aload_n hx hb d_Md_length_66 rfl (lv_at hl 0 rfl) ?_
                refine va_get (D := (dC, dI)) (ci := 9) (v := .ref (ad_md 5)) (C := RX9) (T := TX9) (N := 46) hx hb hts in_X9 hown hK hP 0 rfl rfl 8 (by decide) (hts _ kF_9_26) (fun _ h9 => h9) rfl d_Md_length_67 ?_
                refine lv_iload_n hx hb d_Md_length_70 rfl (lv_at hl 1 rfl) ?_
                obtain ⟨hi12, hf⟩ := op_if hf
                refine va_iald (f := md.2.1 4) hx hb hK hP 6 0 rfl rfl (ix_in hi12) d_Md_length_71 ?_
                refine lv_i2l (v := ((md.2.1 4) p1.toNatClampNeg).toInt64) hx hb d_Md_length_72 rfl ?_
                refine lv_goto (tgt := 83) hx hb d_Md_length_73 (by decide) ?_
                obtain rfl := Option.some.inj hf
                subst hQ
                exact W.lret (v := ((md.2.1 4) p1.toNatClampNeg).toInt64) hx hb hr (fun t ht hW => ⟨rfl, ht⟩) (fun q h => by cases h) d_Md_length_83
            · have hf := op_t hf c9
              refine lv_aload_n hx hb d_Md_length_53 rfl (lv_at hl 0 rfl) ?_
              refine lv_iload_n hx hb d_Md_length_54 rfl (lv_at hl 1 rfl) ?_
              obtain ⟨q10, hq10, hf⟩ := op_b hf
              refine ro_go rfl (va_runV (As := [.int p1]) (rest := []) ⟨hx, hb, hml, hown, hts⟩ (m_Md_sumOf l dC dI tC h_md ad_md md p1 q10 _ hP hq10) (cwV 1 hts (gd_V kM_9_164 kI_Md_sumOf kV_Md_sumOf kZ_9 kC_Md_sumOf) rfl rfl rfl (by decide +kernel) ⟨(Nat.le_of_ble_eq_true rfl), (Nat.le_of_ble_eq_true rfl)⟩) ⟨ro_blind, va_recv hK hP (ci := 9) (q0 := 0) rfl rfl, ro_pre hK⟩ rfl rfl hl.1 rfl (lv_room (Nat.le_of_ble_eq_true rfl)) d_Md_length_55 ⟨(Nat.le_of_ble_eq_true rfl), (Nat.le_of_ble_eq_true rfl)⟩) ?_
              refine W.eq (g2 := F0 m 58 ls [.long q10]) rfl ?_
              refine lv_goto (tgt := 83) hx hb d_Md_length_58 (by decide) ?_
              obtain rfl := Option.some.inj hf
              subst hQ
              exact W.lret (v := q10) hx hb hr (fun t ht hW => ⟨rfl, ht⟩) (fun q h => by cases h) d_Md_length_83
          · have hf := op_t hf c7
            refine lv_aload_n hx hb d_Md_length_38 rfl (lv_at hl 0 rfl) ?_
            refine va_get (D := (dC, dI)) (ci := 9) (v := .ref (ad_md 6)) (C := RX9) (T := TX9) (N := 46) hx hb hts in_X9 hown hK hP 0 rfl rfl 9 (by decide) (hts _ kF_9_29) (fun _ h9 => h9) rfl d_Md_length_39 ?_
            refine lv_iload_n hx hb d_Md_length_42 rfl (lv_at hl 1 rfl) ?_
            obtain ⟨hi8, hf⟩ := op_if hf
            refine va_iald (f := md.2.1 5) hx hb hK hP 7 0 rfl rfl (ix_in hi8) d_Md_length_43 ?_
            refine lv_i2l (v := ((md.2.1 5) p1.toNatClampNeg).toInt64) hx hb d_Md_length_44 rfl ?_
            refine lv_goto (tgt := 83) hx hb d_Md_length_45 (by decide) ?_
            obtain rfl := Option.some.inj hf
            subst hQ
            exact W.lret (v := ((md.2.1 5) p1.toNatClampNeg).toInt64) hx hb hr (fun t ht hW => ⟨rfl, ht⟩) (fun q h => by cases h) d_Md_length_83
        · have hf := op_t hf c5
          refine lv_aload_n hx hb d_Md_length_25 rfl (lv_at hl 0 rfl) ?_
          refine lv_iload_n hx hb d_Md_length_26 rfl (lv_at hl 1 rfl) ?_
          obtain ⟨q6, hq6, hf⟩ := op_b hf
          refine ro_go rfl (va_runV (As := [.int p1]) (rest := []) ⟨hx, hb, hml, hown, hts⟩ (m_Md_lengthOf l dC dI tC h_md ad_md md p1 q6 _ hP hq6) (cwV 1 hts (gd_V kM_9_172 kI_Md_lengthOf kV_Md_lengthOf kZ_9 kC_Md_lengthOf) rfl rfl rfl (by decide +kernel) ⟨(Nat.le_of_ble_eq_true rfl), (Nat.le_of_ble_eq_true rfl)⟩) ⟨ro_blind, va_recv hK hP (ci := 9) (q0 := 0) rfl rfl, ro_pre hK⟩ rfl rfl hl.1 rfl (lv_room (Nat.le_of_ble_eq_true rfl)) d_Md_length_27 ⟨(Nat.le_of_ble_eq_true rfl), (Nat.le_of_ble_eq_true rfl)⟩) ?_
          refine W.eq (g2 := F0 m 30 ls [.long q6]) rfl ?_
          refine lv_goto (tgt := 83) hx hb d_Md_length_30 (by decide) ?_
          obtain rfl := Option.some.inj hf
          subst hQ
          exact W.lret (v := q6) hx hb hr (fun t ht hW => ⟨rfl, ht⟩) (fun q h => by cases h) d_Md_length_83
      · have hf := op_e hf c4
        refine lv_ldc2 (v := (-1)) hx hb hown (hts _ kK_9_170) d_Md_length_17 ?_
        obtain rfl := Option.some.inj hf
        subst hQ
        exact W.lret (v := (-1)) hx hb hr (fun t ht hW => ⟨rfl, ht⟩) (fun q h => by cases h) d_Md_length_20
def l_Md_findPieces_43 : Nat → Int32 → Int32 → Int32 → Int32 → MS → Option (Int32 × MS)
  | 0, _, _, _, _, _ => none
  | n + 1, x1, x2, x3, x4, md => (if x4 ≤ 0 then some (x4, md) else if ix (x4 - 1) 60 then (f_Md_lengthOf md x2).bind fun q13 => (if q13 ≤ ((md.2.2 6) (x4 - 1).toNatClampNeg) then some (x4, md) else if ix (x4 - 1) 60 then if ix x4 60 then (some (sL md 6 (vp_updL (md.2.2 6) x4.toNatClampNeg ((md.2.2 6) (x4 - 1).toNatClampNeg)))).bind fun md17 => if ix (x4 - 1) 60 then if ix x4 60 then (some (sA md17 10 (upd (md17.2.1 10) x4.toNatClampNeg ((md17.2.1 10) (x4 - 1).toNatClampNeg)))).bind fun md20 => l_Md_findPieces_43 n x1 x2 x3 (x4 + (-1)) md20 else none else none else none else none) else none)
def l_Md_findPieces_17 : Nat → Int32 → Int32 → Int32 → MS → Option (Int32 × MS)
  | 0, _, _, _, _ => none
  | n + 1, x1, x2, x3, md => if ix x2 12 then (if ((md.2.1 5) x2.toNatClampNeg) ≤ x3 then some (x3, md) else if ix x2 12 then (if ((md.2.1 4) x2.toNatClampNeg) = x1 then (some (md.1 3) : Option Int32).bind fun v9 => (l_Md_findPieces_43 fu x1 x2 x3 v9 md).bind fun q10 => (f_Md_lengthOf q10.2 x2).bind fun q21 => if ix q10.1 60 then (some (sL q10.2 6 (vp_updL (q10.2.2.2 6) q10.1.toNatClampNeg q21))).bind fun md23 => if ix q10.1 60 then (some (sA md23 10 (upd (md23.2.1 10) q10.1.toNatClampNeg x2))).bind fun md25 => (some (sI md25 3 ((md25.1 3) + 1))).bind fun md26 => l_Md_findPieces_17 n x1 x2 (x3 + 1) md26 else none else none else some (x3, md)) else none) else none
def l_Md_findPieces_7 : Nat → Int32 → Int32 → MS → Option (Int32 × MS)
  | 0, _, _, _ => none
  | n + 1, x1, x2, md => (if (md.1 2) ≤ x2 then some (x2, md) else (l_Md_findPieces_17 fu x1 x2 0 md).bind fun q4 => l_Md_findPieces_7 n x1 (x2 + 1) q4.2)
def f_Md_findPieces (md : MS) (p1 : Int32) : Option (Unit × MS) := (some (sI md 3 0)).bind fun md1 => (l_Md_findPieces_7 fu p1 0 md1).bind fun q2 => some ((), q2.2)
def rm_Md_findPieces : Room := { frames := 2, cells := 0, slots := 0, locals := 49 }
set_option maxHeartbeats 4000000 in
set_option maxRecDepth 100000 in
theorem m_Md_findPieces (l : Launch) (dC : Nat → ClassId) (dI : Nat → Nat → Nat) (tC : Nat → ClassId) (h_md : Nat) (ad_md : Nat → Nat) (md : MS) (p1 : Int32) (R : Unit × MS) (hf : f_Md_findPieces md p1 = some R) (sz : Nat) : Met l y_Md_findPieces w_Md_findPieces rm_Md_findPieces (wrP (dC, dI) tC (w_Md_ h_md ad_md tC md) sz [.ref h_md, .int p1]) (wrQ (dC, dI) (w_Md_ h_md ad_md tC md) sz (fun r w => r = none ∧ w = (w_Md_ h_md ad_md tC R.2))) 0 0 (va_A (w_Md_ h_md ad_md tC md) sz) := by
  refine Met.ofW (cc := c_Md_findPieces) (maxL := 5) (ret := none) (by decide) rfl ?_
  intro p e s m args below meth c s₁ B hml hv
  obtain ⟨hav, hsz, hP, hK, hD0⟩ := hv
  have hx := B.exec
  have hb := B.bytes
  have hr := B.returns
  have hts : ∀ w ∈ gw, w.before args s = true := fun w h => atoms_spec (ws := w_Md_findPieces) B.pre w (List.mem_cons_of_mem _ h)
  have hown : s.vm.findClass RX9 = some m.cls := findClass_of_methodNamed B.named
  have hlocks := B.notSynchronized
  subst hsz
  have hD := hD0.self (sz := s.heap.size)
  obtain ⟨A, hAe⟩ : ∃ z, z = va_A (w_Md_ h_md ad_md tC md) s.heap.size := ⟨_, rfl⟩
  rw [← hAe] at hD
  have hA : ∀ q : Nat, s.heap.size ≤ q → A q := fun q h => by rw [hAe]; exact Or.inr h
  have hS : va_S A s.heap s.heap [] := va_S.rf
  refine q_w (R := rm_Md_findPieces) (fun Q hQ => ?_)
  refine en_w (av := [.ref h_md, .int p1]) hav (Nat.le_of_ble_eq_true rfl) (fun ls hl => ?_)
  have hl : lv_has ls 5 [(0, .ref h_md), (1, .int p1)] := hl
  unfold f_Md_findPieces at hf
  refine lv_aload_n hx hb d_Md_findPieces_0 rfl (lv_at hl 0 rfl) ?_
  refine lv_iconst (v := 0) hx hb d_Md_findPieces_1 (by decide) ?_
  refine va_put (D := (dC, dI)) (ci := 9) (v := .int 0) (ty := .int) (C := RX9) (T := TX9) (N := 46) hx hb hts in_X9 tyX9 tyX9_ok nmX9 hown hK hP hD hS 0 (fs := [.ref (ad_md 0), .int (md.1 0), .int (md.1 1), .ref (ad_md 1), .ref (ad_md 2), .ref (ad_md 3), .int (md.1 2), .ref (ad_md 4), .ref (ad_md 5), .ref (ad_md 6), .ref (ad_md 7), .ref (ad_md 8), .ref (ad_md 9), .ref (ad_md 10), .ref (ad_md 11), .ref (ad_md 12), .ref (ad_md 13), .ref (ad_md 14), .ref (ad_md 15), .int (md.1 3), .ref (ad_md 16), .ref (ad_md 17), .ref (ad_md 18), .ref (ad_md 19), .ref (ad_md 20), .ref (ad_md 21), .ref (ad_md 22), .int (md.1 4), .int (md.1 5), .ref (ad_md 23), .ref (ad_md 24), .ref (ad_md 25), .ref (ad_md 26), .ref (ad_md 27), .int (md.1 6), .int (md.1 7), .int (md.1 8), .ref (ad_md 28), .ref (ad_md 29), .ref (ad_md 30), .ref (ad_md 31), .ref (ad_md 32), .ref (ad_md 33), .ref (ad_md 34), .ref (ad_md 35), .int (md.1 9)]) rfl rfl 19 (by decide) (hts _ kF_9_175) (fun _ h9 => h9) rfl (by decide +kernel) (rfl) (rfl) (Nat.le_of_ble_eq_true rfl) d_Md_findPieces_2 (fun H locs hP hD hS => ?_)
  rw [wu_Md_s3] at hP hD
  obtain ⟨md1, hmd1, hf⟩ := op_b hf
  have hP : va_P (dC, dI) vwCl (w_Md_ h_md ad_md tC md1) H := by rw [← Option.some.inj hmd1]; exact hP
  have hD : va_D A (w_Md_ h_md ad_md tC md1) := by rw [← Option.some.inj hmd1]; exact hD
  refine lv_iconst (v := 0) hx hb d_Md_findPieces_5 (by decide) ?_
  refine lv_istore_n (lv' := [(2, .int 0), (0, .ref h_md), (1, .int p1)]) hx hb d_Md_findPieces_6 rfl hl (by decide) rfl (fun ls hl => ?_)
  have lp_7 : ∀ (n : Nat) (x1 : Int32) (x2 : Int32) (md : MS) (Rl : Int32 × MS), l_Md_findPieces_7 n x1 x2 md = some Rl → ∀ (H : Heap) (locs : List Loc), va_P (dC, dI) vwCl (w_Md_ h_md ad_md tC md) H → va_D A (w_Md_ h_md ad_md tC md) → va_S A s.heap H locs → ∀ ls : Array Slot, lv_has ls 5 [(2, .int x2), (0, .ref h_md), (1, .int x1)] → (∀ (H : Heap) (locs : List Loc), va_P (dC, dI) vwCl (w_Md_ h_md ad_md tC Rl.2) H → va_D A (w_Md_ h_md ad_md tC Rl.2) → va_S A s.heap H locs → ∀ ls : Array Slot, lv_has ls 5 [(2, .int Rl.1), (0, .ref h_md), (1, .int x1)] → W p l e rm_Md_findPieces s m args below meth c H locs 0 0 Q (F0 m 146 ls [])) → W p l e rm_Md_findPieces s m args below meth c H locs 0 0 Q (F0 m 7 ls []) := by
    intro n
    induction n with
    | zero => intro x1 x2 md Rl hf; cases hf
    | succ n ih_7 =>
      intro x1 x2 md Rl hf H locs hP hD hS ls hl Kk
      rw [l_Md_findPieces_7] at hf
      refine lv_iload_n hx hb d_Md_findPieces_7 rfl (lv_at hl 0 rfl) ?_
      refine lv_aload_n hx hb d_Md_findPieces_8 rfl (lv_at hl 1 rfl) ?_
      refine va_get (D := (dC, dI)) (ci := 9) (v := .int (md.1 2)) (C := RX9) (T := TX9) (N := 46) hx hb hts in_X9 hown hK hP 0 rfl rfl 6 (by decide) (hts _ kF_9_120) (fun _ h9 => h9) rfl d_Md_findPieces_9 ?_
      refine lv_icmp_ge (tgt := 146) hx hb d_Md_findPieces_12 (by decide) (fun c3 => ?_) (fun c3 => ?_)
      · have hf := op_t hf c3
        obtain rfl := Option.some.inj hf
        exact Kk _ _ hP hD hS _ (lv_sub hl [0, 1, 2] rfl)
      · have hf := op_e hf c3
        refine lv_iconst (v := 0) hx hb d_Md_findPieces_15 (by decide) ?_
        refine lv_istore_n (lv' := [(3, .int 0), (2, .int x2), (0, .ref h_md), (1, .int x1)]) hx hb d_Md_findPieces_16 rfl hl (by decide) rfl (fun ls hl => ?_)
        have lp_17 : ∀ (n : Nat) (x1 : Int32) (x2 : Int32) (x3 : Int32) (md : MS) (Rl : Int32 × MS), l_Md_findPieces_17 n x1 x2 x3 md = some Rl → ∀ (H : Heap) (locs : List Loc), va_P (dC, dI) vwCl (w_Md_ h_md ad_md tC md) H → va_D A (w_Md_ h_md ad_md tC md) → va_S A s.heap H locs → ∀ ls : Array Slot, lv_has ls 5 [(3, .int x3), (2, .int x2), (0, .ref h_md), (1, .int x1)] → (∀ (H : Heap) (locs : List Loc), va_P (dC, dI) vwCl (w_Md_ h_md ad_md tC Rl.2) H → va_D A (w_Md_ h_md ad_md tC Rl.2) → va_S A s.heap H locs → ∀ ls : Array Slot, lv_has ls 5 [(3, .int Rl.1), (2, .int x2), (0, .ref h_md), (1, .int x1)] → W p l e rm_Md_findPieces s m args below meth c H locs 0 0 Q (F0 m 140 ls [])) → W p l e rm_Md_findPieces s m args below meth c H locs 0 0 Q (F0 m 17 ls []) := by
          intro n
          induction n with
          | zero => intro x1 x2 x3 md Rl hf; cases hf
          | succ n ih_17 =>
            intro x1 x2 x3 md Rl hf H locs hP hD hS ls hl Kk
            rw [l_Md_findPieces_17] at hf
            refine lv_iload_n hx hb d_Md_findPieces_17 rfl (lv_at hl 0 rfl) ?_
            refine lv_aload_n hx hb d_Md_findPieces_18 rfl (lv_at hl 2 rfl) ?_
            refine va_get (D := (dC, dI)) (ci := 9) (v := .ref (ad_md 6)) (C := RX9) (T := TX9) (N := 46) hx hb hts in_X9 hown hK hP 0 rfl rfl 9 (by decide) (hts _ kF_9_29) (fun _ h9 => h9) rfl d_Md_findPieces_19 ?_
            refine lv_iload_n hx hb d_Md_findPieces_22 rfl (lv_at hl 1 rfl) ?_
            obtain ⟨hi5, hf⟩ := op_if hf
            refine va_iald (f := md.2.1 5) hx hb hK hP 7 0 rfl rfl (ix_in hi5) d_Md_findPieces_23 ?_
            refine lv_icmp_ge (tgt := 140) hx hb d_Md_findPieces_24 (by decide) (fun c6 => ?_) (fun c6 => ?_)
            · have hf := op_t hf c6
              obtain rfl := Option.some.inj hf
              exact Kk _ _ hP hD hS _ (lv_sub hl [0, 1, 2, 3] rfl)
            · have hf := op_e hf c6
              refine lv_aload_n hx hb d_Md_findPieces_27 rfl (lv_at hl 2 rfl) ?_
              refine va_get (D := (dC, dI)) (ci := 9) (v := .ref (ad_md 5)) (C := RX9) (T := TX9) (N := 46) hx hb hts in_X9 hown hK hP 0 rfl rfl 8 (by decide) (hts _ kF_9_26) (fun _ h9 => h9) rfl d_Md_findPieces_28 ?_
              refine lv_iload_n hx hb d_Md_findPieces_31 rfl (lv_at hl 1 rfl) ?_
              obtain ⟨hi7, hf⟩ := op_if hf
              refine va_iald (f := md.2.1 4) hx hb hK hP 6 0 rfl rfl (ix_in hi7) d_Md_findPieces_32 ?_
              refine lv_iload_n hx hb d_Md_findPieces_33 rfl (lv_at hl 3 rfl) ?_
              refine lv_icmp_ne (tgt := 140) hx hb d_Md_findPieces_34 (by decide) (fun c8 => ?_) (fun c8 => ?_)
              · have hf := op_e hf c8
                obtain rfl := Option.some.inj hf
                exact Kk _ _ hP hD hS _ (lv_sub hl [0, 1, 2, 3] rfl)
              · have hf := op_t hf c8
                refine lv_aload_n hx hb d_Md_findPieces_37 rfl (lv_at hl 2 rfl) ?_
                refine va_get (D := (dC, dI)) (ci := 9) (v := .int (md.1 3)) (C := RX9) (T := TX9) (N := 46) hx hb hts in_X9 hown hK hP 0 rfl rfl 19 (by decide) (hts _ kF_9_175) (fun _ h9 => h9) rfl d_Md_findPieces_38 ?_
                obtain ⟨v9, hv9, hf⟩ := op_b hf
                refine rw_i (y := v9) (Option.some.inj hv9) ?_
                refine lv_istore (lv' := [(4, .int v9), (3, .int x3), (2, .int x2), (0, .ref h_md), (1, .int x1)]) hx hb d_Md_findPieces_41 hl (by decide) rfl (fun ls hl => ?_)
                have lp_43 : ∀ (n : Nat) (x1 : Int32) (x2 : Int32) (x3 : Int32) (x4 : Int32) (md : MS) (Rl : Int32 × MS), l_Md_findPieces_43 n x1 x2 x3 x4 md = some Rl → ∀ (H : Heap) (locs : List Loc), va_P (dC, dI) vwCl (w_Md_ h_md ad_md tC md) H → va_D A (w_Md_ h_md ad_md tC md) → va_S A s.heap H locs → ∀ ls : Array Slot, lv_has ls 5 [(4, .int x4), (3, .int x3), (2, .int x2), (0, .ref h_md), (1, .int x1)] → (∀ (H : Heap) (locs : List Loc), va_P (dC, dI) vwCl (w_Md_ h_md ad_md tC Rl.2) H → va_D A (w_Md_ h_md ad_md tC Rl.2) → va_S A s.heap H locs → ∀ ls : Array Slot, lv_has ls 5 [(4, .int Rl.1), (3, .int x3), (2, .int x2), (0, .ref h_md), (1, .int x1)] → W p l e rm_Md_findPieces s m args below meth c H locs 0 0 Q (F0 m 104 ls [])) → W p l e rm_Md_findPieces s m args below meth c H locs 0 0 Q (F0 m 43 ls []) := by
                  intro n
                  induction n with
                  | zero => intro x1 x2 x3 x4 md Rl hf; cases hf
                  | succ n ih_43 =>
                    intro x1 x2 x3 x4 md Rl hf H locs hP hD hS ls hl Kk
                    rw [l_Md_findPieces_43] at hf
                    refine lv_iload hx hb d_Md_findPieces_43 (lv_at hl 0 rfl) ?_
                    refine lv_if_le (tgt := 104) hx hb d_Md_findPieces_45 (by decide) (fun c11 => ?_) (fun c11 => ?_)
                    · have hf := op_t hf c11
                      obtain rfl := Option.some.inj hf
                      exact Kk _ _ hP hD hS _ (lv_sub hl [0, 1, 2, 3, 4] rfl)
                    · have hf := op_e hf c11
                      refine lv_aload_n hx hb d_Md_findPieces_48 rfl (lv_at hl 3 rfl) ?_
                      refine va_get (D := (dC, dI)) (ci := 9) (v := .ref (ad_md 17)) (C := RX9) (T := TX9) (N := 46) hx hb hts in_X9 hown hK hP 0 rfl rfl 21 (by decide) (hts _ kF_9_63) (fun _ h9 => h9) rfl d_Md_findPieces_49 ?_
                      refine lv_iload hx hb d_Md_findPieces_52 (lv_at hl 0 rfl) ?_
                      refine lv_iconst (v := 1) hx hb d_Md_findPieces_54 (by decide) ?_
                      refine lv_isub hx hb d_Md_findPieces_55 ?_
                      obtain ⟨hi12, hf⟩ := op_if hf
                      refine va_lald (f := md.2.2 6) hx hb hK hP 18 1 rfl rfl (ix_in hi12) d_Md_findPieces_56 ?_
                      refine lv_aload_n hx hb d_Md_findPieces_57 rfl (lv_at hl 3 rfl) ?_
                      refine lv_iload_n hx hb d_Md_findPieces_58 rfl (lv_at hl 2 rfl) ?_
                      obtain ⟨q13, hq13, hf⟩ := op_b hf
                      refine ro_go rfl (va_runV (As := [.int x2]) (rest := [.long ((md.2.2 6) (x4 - 1).toNatClampNeg)]) ⟨hx, hb, hml, hown, hts⟩ (m_Md_lengthOf l dC dI tC h_md ad_md md x2 q13 _ hP hq13) (cwV 1 hts (gd_V kM_9_172 kI_Md_lengthOf kV_Md_lengthOf kZ_9 kC_Md_lengthOf) rfl rfl rfl (by decide +kernel) ⟨(Nat.le_of_ble_eq_true rfl), (Nat.le_of_ble_eq_true rfl)⟩) ⟨ro_blind, va_recv hK hP (ci := 9) (q0 := 0) rfl rfl, ro_pre hK⟩ rfl rfl hl.1 rfl (lv_room (Nat.le_of_ble_eq_true rfl)) d_Md_findPieces_59 ⟨(Nat.le_of_ble_eq_true rfl), (Nat.le_of_ble_eq_true rfl)⟩) ?_
                      refine W.eq (g2 := F0 m 62 ls [.long q13, .long ((md.2.2 6) (x4 - 1).toNatClampNeg)]) rfl ?_
                      refine W.lcmp hx hb d_Md_findPieces_62 ?_
                      refine lv_if_ge (tgt := 104) hx hb d_Md_findPieces_63 (by decide) (fun c14 => ?_) (fun c14 => ?_)
                      · have c14 := (lg_cmp_ge _ _).mp c14
                        have hf := op_t hf c14
                        obtain rfl := Option.some.inj hf
                        exact Kk _ _ hP hD hS _ (lv_sub hl [0, 1, 2, 3, 4] rfl)
                      · have c14 := fun h9 => c14 ((lg_cmp_ge _ _).mpr h9)
                        have hf := op_e hf c14
                        refine lv_aload_n hx hb d_Md_findPieces_66 rfl (lv_at hl 3 rfl) ?_
                        refine va_get (D := (dC, dI)) (ci := 9) (v := .ref (ad_md 17)) (C := RX9) (T := TX9) (N := 46) hx hb hts in_X9 hown hK hP 0 rfl rfl 21 (by decide) (hts _ kF_9_63) (fun _ h9 => h9) rfl d_Md_findPieces_67 ?_
                        refine lv_iload hx hb d_Md_findPieces_70 (lv_at hl 0 rfl) ?_
                        refine lv_aload_n hx hb d_Md_findPieces_72 rfl (lv_at hl 3 rfl) ?_
                        refine va_get (D := (dC, dI)) (ci := 9) (v := .ref (ad_md 17)) (C := RX9) (T := TX9) (N := 46) hx hb hts in_X9 hown hK hP 0 rfl rfl 21 (by decide) (hts _ kF_9_63) (fun _ h9 => h9) rfl d_Md_findPieces_73 ?_
                        refine lv_iload hx hb d_Md_findPieces_76 (lv_at hl 0 rfl) ?_
                        refine lv_iconst (v := 1) hx hb d_Md_findPieces_78 (by decide) ?_
                        refine lv_isub hx hb d_Md_findPieces_79 ?_
                        obtain ⟨hi15, hf⟩ := op_if hf
                        refine va_lald (f := md.2.2 6) hx hb hK hP 18 1 rfl rfl (ix_in hi15) d_Md_findPieces_80 ?_
                        obtain ⟨hi16, hf⟩ := op_if hf
                        refine va_last (f := md.2.2 6) hx hb hK hP hD hS 18 1 rfl rfl (ix_in hi16) d_Md_findPieces_81 (fun H locs hP hD hS => ?_)
                        rw [wu_Md_l6] at hP hD
                        obtain ⟨md17, hmd17, hf⟩ := op_b hf
                        have hP : va_P (dC, dI) vwCl (w_Md_ h_md ad_md tC md17) H := by rw [← Option.some.inj hmd17]; exact hP
                        have hD : va_D A (w_Md_ h_md ad_md tC md17) := by rw [← Option.some.inj hmd17]; exact hD
                        refine lv_aload_n hx hb d_Md_findPieces_82 rfl (lv_at hl 3 rfl) ?_
                        refine va_get (D := (dC, dI)) (ci := 9) (v := .ref (ad_md 16)) (C := RX9) (T := TX9) (N := 46) hx hb hts in_X9 hown hK hP 0 rfl rfl 20 (by decide) (hts _ kF_9_60) (fun _ h9 => h9) rfl d_Md_findPieces_83 ?_
                        refine lv_iload hx hb d_Md_findPieces_86 (lv_at hl 0 rfl) ?_
                        refine lv_aload_n hx hb d_Md_findPieces_88 rfl (lv_at hl 3 rfl) ?_
                        refine va_get (D := (dC, dI)) (ci := 9) (v := .ref (ad_md 16)) (C := RX9) (T := TX9) (N := 46) hx hb hts in_X9 hown hK hP 0 rfl rfl 20 (by decide) (hts _ kF_9_60) (fun _ h9 => h9) rfl d_Md_findPieces_89 ?_
                        refine lv_iload hx hb d_Md_findPieces_92 (lv_at hl 0 rfl) ?_
                        refine lv_iconst (v := 1) hx hb d_Md_findPieces_94 (by decide) ?_
                        refine lv_isub hx hb d_Md_findPieces_95 ?_
                        obtain ⟨hi18, hf⟩ := op_if hf
                        refine va_iald (f := md17.2.1 10) hx hb hK hP 17 0 rfl rfl (ix_in hi18) d_Md_findPieces_96 ?_
                        obtain ⟨hi19, hf⟩ := op_if hf
                        refine va_iast (f := md17.2.1 10) hx hb hK hP hD hS 17 0 rfl rfl (ix_in hi19) d_Md_findPieces_97 (fun H locs hP hD hS => ?_)
                        rw [wu_Md_a10] at hP hD
                        obtain ⟨md20, hmd20, hf⟩ := op_b hf
                        have hP : va_P (dC, dI) vwCl (w_Md_ h_md ad_md tC md20) H := by rw [← Option.some.inj hmd20]; exact hP
                        have hD : va_D A (w_Md_ h_md ad_md tC md20) := by rw [← Option.some.inj hmd20]; exact hD
                        refine lv_iinc (v := x4 + (-1)) (lv' := [(4, .int (x4 + (-1))), (3, .int x3), (2, .int x2), (0, .ref h_md), (1, .int x1)]) hx hb d_Md_findPieces_98 hl (k := 0) rfl rfl (by decide) rfl (fun ls hl => ?_)
                        refine lv_goto (tgt := 43) hx hb d_Md_findPieces_101 (by decide) ?_
                        exact ih_43 x1 x2 x3 (x4 + (-1)) md20 Rl hf _ _ hP hD hS _ (lv_sub hl [0, 1, 2, 3, 4] rfl) Kk
                obtain ⟨q10, hq10, hf⟩ := op_b hf
                refine lp_43 fu x1 x2 x3 v9 md q10 hq10 _ _ hP hD hS _ (lv_sub hl [0, 1, 2, 3, 4] rfl) ?_
                intro H locs hP hD hS ls hl
                refine lv_aload_n hx hb d_Md_findPieces_104 rfl (lv_at hl 3 rfl) ?_
                refine va_get (D := (dC, dI)) (ci := 9) (v := .ref (ad_md 17)) (C := RX9) (T := TX9) (N := 46) hx hb hts in_X9 hown hK hP 0 rfl rfl 21 (by decide) (hts _ kF_9_63) (fun _ h9 => h9) rfl d_Md_findPieces_105 ?_
                refine lv_iload hx hb d_Md_findPieces_108 (lv_at hl 0 rfl) ?_
                refine lv_aload_n hx hb d_Md_findPieces_110 rfl (lv_at hl 3 rfl) ?_
                refine lv_iload_n hx hb d_Md_findPieces_111 rfl (lv_at hl 2 rfl) ?_
                obtain ⟨q21, hq21, hf⟩ := op_b hf
                refine ro_go rfl (va_runV (As := [.int x2]) (rest := [.int q10.1, .ref (ad_md 17)]) ⟨hx, hb, hml, hown, hts⟩ (m_Md_lengthOf l dC dI tC h_md ad_md q10.2 x2 q21 _ hP hq21) (cwV 1 hts (gd_V kM_9_172 kI_Md_lengthOf kV_Md_lengthOf kZ_9 kC_Md_lengthOf) rfl rfl rfl (by decide +kernel) ⟨(Nat.le_of_ble_eq_true rfl), (Nat.le_of_ble_eq_true rfl)⟩) ⟨ro_blind, va_recv hK hP (ci := 9) (q0 := 0) rfl rfl, ro_pre hK⟩ rfl rfl hl.1 rfl (lv_room (Nat.le_of_ble_eq_true rfl)) d_Md_findPieces_112 ⟨(Nat.le_of_ble_eq_true rfl), (Nat.le_of_ble_eq_true rfl)⟩) ?_
                refine W.eq (g2 := F0 m 115 ls [.long q21, .int q10.1, .ref (ad_md 17)]) rfl ?_
                obtain ⟨hi22, hf⟩ := op_if hf
                refine va_last (f := q10.2.2.2 6) hx hb hK hP hD hS 18 1 rfl rfl (ix_in hi22) d_Md_findPieces_115 (fun H locs hP hD hS => ?_)
                rw [wu_Md_l6] at hP hD
                obtain ⟨md23, hmd23, hf⟩ := op_b hf
                have hP : va_P (dC, dI) vwCl (w_Md_ h_md ad_md tC md23) H := by rw [← Option.some.inj hmd23]; exact hP
                have hD : va_D A (w_Md_ h_md ad_md tC md23) := by rw [← Option.some.inj hmd23]; exact hD
                refine lv_aload_n hx hb d_Md_findPieces_116 rfl (lv_at hl 3 rfl) ?_
                refine va_get (D := (dC, dI)) (ci := 9) (v := .ref (ad_md 16)) (C := RX9) (T := TX9) (N := 46) hx hb hts in_X9 hown hK hP 0 rfl rfl 20 (by decide) (hts _ kF_9_60) (fun _ h9 => h9) rfl d_Md_findPieces_117 ?_
                refine lv_iload hx hb d_Md_findPieces_120 (lv_at hl 0 rfl) ?_
                refine lv_iload_n hx hb d_Md_findPieces_122 rfl (lv_at hl 2 rfl) ?_
                obtain ⟨hi24, hf⟩ := op_if hf
                refine va_iast (f := md23.2.1 10) hx hb hK hP hD hS 17 0 rfl rfl (ix_in hi24) d_Md_findPieces_123 (fun H locs hP hD hS => ?_)
                rw [wu_Md_a10] at hP hD
                obtain ⟨md25, hmd25, hf⟩ := op_b hf
                have hP : va_P (dC, dI) vwCl (w_Md_ h_md ad_md tC md25) H := by rw [← Option.some.inj hmd25]; exact hP
                have hD : va_D A (w_Md_ h_md ad_md tC md25) := by rw [← Option.some.inj hmd25]; exact hD
                refine lv_aload_n hx hb d_Md_findPieces_124 rfl (lv_at hl 3 rfl) ?_
                refine lv_dup hx hb d_Md_findPieces_125 rfl ?_
                refine va_get (D := (dC, dI)) (ci := 9) (v := .int (md25.1 3)) (C := RX9) (T := TX9) (N := 46) hx hb hts in_X9 hown hK hP 0 rfl rfl 19 (by decide) (hts _ kF_9_175) (fun _ h9 => h9) rfl d_Md_findPieces_126 ?_
                refine lv_iconst (v := 1) hx hb d_Md_findPieces_129 (by decide) ?_
                refine lv_iadd hx hb d_Md_findPieces_130 ?_
                refine va_put (D := (dC, dI)) (ci := 9) (v := .int ((md25.1 3) + 1)) (ty := .int) (C := RX9) (T := TX9) (N := 46) hx hb hts in_X9 tyX9 tyX9_ok nmX9 hown hK hP hD hS 0 (fs := [.ref (ad_md 0), .int (md25.1 0), .int (md25.1 1), .ref (ad_md 1), .ref (ad_md 2), .ref (ad_md 3), .int (md25.1 2), .ref (ad_md 4), .ref (ad_md 5), .ref (ad_md 6), .ref (ad_md 7), .ref (ad_md 8), .ref (ad_md 9), .ref (ad_md 10), .ref (ad_md 11), .ref (ad_md 12), .ref (ad_md 13), .ref (ad_md 14), .ref (ad_md 15), .int (md25.1 3), .ref (ad_md 16), .ref (ad_md 17), .ref (ad_md 18), .ref (ad_md 19), .ref (ad_md 20), .ref (ad_md 21), .ref (ad_md 22), .int (md25.1 4), .int (md25.1 5), .ref (ad_md 23), .ref (ad_md 24), .ref (ad_md 25), .ref (ad_md 26), .ref (ad_md 27), .int (md25.1 6), .int (md25.1 7), .int (md25.1 8), .ref (ad_md 28), .ref (ad_md 29), .ref (ad_md 30), .ref (ad_md 31), .ref (ad_md 32), .ref (ad_md 33), .ref (ad_md 34), .ref (ad_md 35), .int (md25.1 9)]) rfl rfl 19 (by decide) (hts _ kF_9_175) (fun _ h9 => h9) rfl (by decide +kernel) (rfl) (rfl) (Nat.le_of_ble_eq_true rfl) d_Md_findPieces_131 (fun H locs hP hD hS => ?_)
                rw [wu_Md_s3] at hP hD
                obtain ⟨md26, hmd26, hf⟩ := op_b hf
                have hP : va_P (dC, dI) vwCl (w_Md_ h_md ad_md tC md26) H := by rw [← Option.some.inj hmd26]; exact hP
                have hD : va_D A (w_Md_ h_md ad_md tC md26) := by rw [← Option.some.inj hmd26]; exact hD
                refine lv_iinc (v := x3 + 1) (lv' := [(3, .int (x3 + 1)), (4, .int q10.1), (2, .int x2), (0, .ref h_md), (1, .int x1)]) hx hb d_Md_findPieces_134 hl (k := 1) rfl rfl (by decide) rfl (fun ls hl => ?_)
                refine lv_goto (tgt := 17) hx hb d_Md_findPieces_137 (by decide) ?_
                exact ih_17 x1 x2 (x3 + 1) md26 Rl hf _ _ hP hD hS _ (lv_sub hl [0, 2, 3, 4] rfl) Kk
        obtain ⟨q4, hq4, hf⟩ := op_b hf
        refine lp_17 fu x1 x2 0 md q4 hq4 _ _ hP hD hS _ (lv_sub hl [0, 1, 2, 3] rfl) ?_
        intro H locs hP hD hS ls hl
        refine lv_iinc (v := x2 + 1) (lv' := [(2, .int (x2 + 1)), (3, .int q4.1), (0, .ref h_md), (1, .int x1)]) hx hb d_Md_findPieces_140 hl (k := 1) rfl rfl (by decide) rfl (fun ls hl => ?_)
        refine lv_goto (tgt := 7) hx hb d_Md_findPieces_143 (by decide) ?_
        exact ih_7 x1 (x2 + 1) q4.2 Rl hf _ _ hP hD hS _ (lv_sub hl [0, 2, 3] rfl) Kk
  obtain ⟨q2, hq2, hf⟩ := op_b hf
  refine lp_7 fu p1 0 md1 q2 hq2 _ _ hP hD hS _ (lv_sub hl [0, 1, 2] rfl) ?_
  intro H locs hP hD hS ls hl
  obtain rfl := Option.some.inj hf
  subst hQ
  subst hAe
  exact W.vret hx hb hr (fun t ht hW => ⟨⟨_, _, rfl, ⟨rfl, rfl⟩, by rw [ht]; exact hP, hD⟩, hS.F ht⟩) hS.2.2 d_Md_findPieces_146
def f_Md_openBar (md : MS) (p1 : Int32) (p2 : Int32) : Option (Unit × MS) := if ix (md.1 5) 60 then (some (sA md 16 (upd (md.2.1 16) (md.1 5).toNatClampNeg p1))).bind fun md2 => if ix ((3 * p1) + p2) 123 then if ix (md2.1 5) 60 then (some (sL md2 7 (vp_updL (md2.2.2 7) (md2.1 5).toNatClampNeg ((md2.2.2 5) ((3 * p1) + p2).toNatClampNeg)))).bind fun md5 => if ix (md5.1 5) 60 then if ix (md5.1 5) 60 then (some (sL md5 8 (vp_updL (md5.2.2 8) (md5.1 5).toNatClampNeg ((md5.2.2 7) (md5.1 5).toNatClampNeg)))).bind fun md8 => if ix (md8.1 5) 60 then (some (sA md8 17 (upd (md8.2.1 17) (md8.1 5).toNatClampNeg 0))).bind fun md10 => (some (sI md10 5 ((md10.1 5) + 1))).bind fun md11 => if ix p2 3 then if ix p2 3 then (some (sA md11 9 (upd (md11.2.1 9) p2.toNatClampNeg (((md11.2.1 9) p2.toNatClampNeg) - 1)))).bind fun md14 => some ((), md14) else none else none else none else none else none else none else none else none
def rm_Md_openBar : Room := { frames := 0, cells := 0, slots := 0, locals := 0 }
set_option maxHeartbeats 4000000 in
set_option maxRecDepth 100000 in
theorem m_Md_openBar (l : Launch) (dC : Nat → ClassId) (dI : Nat → Nat → Nat) (tC : Nat → ClassId) (h_md : Nat) (ad_md : Nat → Nat) (md : MS) (p1 : Int32) (p2 : Int32) (R : Unit × MS) (hf : f_Md_openBar md p1 p2 = some R) (sz : Nat) : Met l y_Md_openBar w_Md_openBar rm_Md_openBar (wrP (dC, dI) tC (w_Md_ h_md ad_md tC md) sz [.ref h_md, .int p1, .int p2]) (wrQ (dC, dI) (w_Md_ h_md ad_md tC md) sz (fun r w => r = none ∧ w = (w_Md_ h_md ad_md tC R.2))) 0 0 (va_A (w_Md_ h_md ad_md tC md) sz) := by
  refine Met.ofW (cc := c_Md_openBar) (maxL := 3) (ret := none) (by decide) rfl ?_
  intro p e s m args below meth c s₁ B hml hv
  obtain ⟨hav, hsz, hP, hK, hD0⟩ := hv
  have hx := B.exec
  have hb := B.bytes
  have hr := B.returns
  have hts : ∀ w ∈ gw, w.before args s = true := fun w h => atoms_spec (ws := w_Md_openBar) B.pre w (List.mem_cons_of_mem _ h)
  have hown : s.vm.findClass RX9 = some m.cls := findClass_of_methodNamed B.named
  have hlocks := B.notSynchronized
  subst hsz
  have hD := hD0.self (sz := s.heap.size)
  obtain ⟨A, hAe⟩ : ∃ z, z = va_A (w_Md_ h_md ad_md tC md) s.heap.size := ⟨_, rfl⟩
  rw [← hAe] at hD
  have hA : ∀ q : Nat, s.heap.size ≤ q → A q := fun q h => by rw [hAe]; exact Or.inr h
  have hS : va_S A s.heap s.heap [] := va_S.rf
  refine q_w (R := rm_Md_openBar) (fun Q hQ => ?_)
  refine en_w (av := [.ref h_md, .int p1, .int p2]) hav (Nat.le_of_ble_eq_true rfl) (fun ls hl => ?_)
  have hl : lv_has ls 3 [(0, .ref h_md), (1, .int p1), (2, .int p2)] := hl
  unfold f_Md_openBar at hf
  refine lv_aload_n hx hb d_Md_openBar_0 rfl (lv_at hl 0 rfl) ?_
  refine va_get (D := (dC, dI)) (ci := 9) (v := .ref (ad_md 23)) (C := RX9) (T := TX9) (N := 46) hx hb hts in_X9 hown hK hP 0 rfl rfl 29 (by decide) (hts _ kF_9_81) (fun _ h9 => h9) rfl d_Md_openBar_1 ?_
  refine lv_aload_n hx hb d_Md_openBar_4 rfl (lv_at hl 0 rfl) ?_
  refine va_get (D := (dC, dI)) (ci := 9) (v := .int (md.1 5)) (C := RX9) (T := TX9) (N := 46) hx hb hts in_X9 hown hK hP 0 rfl rfl 28 (by decide) (hts _ kF_9_178) (fun _ h9 => h9) rfl d_Md_openBar_5 ?_
  refine lv_iload_n hx hb d_Md_openBar_8 rfl (lv_at hl 1 rfl) ?_
  obtain ⟨hi1, hf⟩ := op_if hf
  refine va_iast (f := md.2.1 16) hx hb hK hP hD hS 24 0 rfl rfl (ix_in hi1) d_Md_openBar_9 (fun H locs hP hD hS => ?_)
  rw [wu_Md_a16] at hP hD
  obtain ⟨md2, hmd2, hf⟩ := op_b hf
  have hP : va_P (dC, dI) vwCl (w_Md_ h_md ad_md tC md2) H := by rw [← Option.some.inj hmd2]; exact hP
  have hD : va_D A (w_Md_ h_md ad_md tC md2) := by rw [← Option.some.inj hmd2]; exact hD
  refine lv_aload_n hx hb d_Md_openBar_10 rfl (lv_at hl 0 rfl) ?_
  refine va_get (D := (dC, dI)) (ci := 9) (v := .ref (ad_md 24)) (C := RX9) (T := TX9) (N := 46) hx hb hts in_X9 hown hK hP 0 rfl rfl 30 (by decide) (hts _ kF_9_84) (fun _ h9 => h9) rfl d_Md_openBar_11 ?_
  refine lv_aload_n hx hb d_Md_openBar_14 rfl (lv_at hl 0 rfl) ?_
  refine va_get (D := (dC, dI)) (ci := 9) (v := .int (md2.1 5)) (C := RX9) (T := TX9) (N := 46) hx hb hts in_X9 hown hK hP 0 rfl rfl 28 (by decide) (hts _ kF_9_178) (fun _ h9 => h9) rfl d_Md_openBar_15 ?_
  refine lv_aload_n hx hb d_Md_openBar_18 rfl (lv_at hl 0 rfl) ?_
  refine va_get (D := (dC, dI)) (ci := 9) (v := .ref (ad_md 13)) (C := RX9) (T := TX9) (N := 46) hx hb hts in_X9 hown hK hP 0 rfl rfl 16 (by decide) (hts _ kF_9_51) (fun _ h9 => h9) rfl d_Md_openBar_19 ?_
  refine lv_iconst (v := 3) hx hb d_Md_openBar_22 (by decide) ?_
  refine lv_iload_n hx hb d_Md_openBar_23 rfl (lv_at hl 1 rfl) ?_
  refine lv_imul hx hb d_Md_openBar_24 ?_
  refine lv_iload_n hx hb d_Md_openBar_25 rfl (lv_at hl 2 rfl) ?_
  refine lv_iadd hx hb d_Md_openBar_26 ?_
  obtain ⟨hi3, hf⟩ := op_if hf
  refine va_lald (f := md2.2.2 5) hx hb hK hP 14 1 rfl rfl (ix_in hi3) d_Md_openBar_27 ?_
  obtain ⟨hi4, hf⟩ := op_if hf
  refine va_last (f := md2.2.2 7) hx hb hK hP hD hS 25 1 rfl rfl (ix_in hi4) d_Md_openBar_28 (fun H locs hP hD hS => ?_)
  rw [wu_Md_l7] at hP hD
  obtain ⟨md5, hmd5, hf⟩ := op_b hf
  have hP : va_P (dC, dI) vwCl (w_Md_ h_md ad_md tC md5) H := by rw [← Option.some.inj hmd5]; exact hP
  have hD : va_D A (w_Md_ h_md ad_md tC md5) := by rw [← Option.some.inj hmd5]; exact hD
  refine lv_aload_n hx hb d_Md_openBar_29 rfl (lv_at hl 0 rfl) ?_
  refine va_get (D := (dC, dI)) (ci := 9) (v := .ref (ad_md 27)) (C := RX9) (T := TX9) (N := 46) hx hb hts in_X9 hown hK hP 0 rfl rfl 33 (by decide) (hts _ kF_9_93) (fun _ h9 => h9) rfl d_Md_openBar_30 ?_
  refine lv_aload_n hx hb d_Md_openBar_33 rfl (lv_at hl 0 rfl) ?_
  refine va_get (D := (dC, dI)) (ci := 9) (v := .int (md5.1 5)) (C := RX9) (T := TX9) (N := 46) hx hb hts in_X9 hown hK hP 0 rfl rfl 28 (by decide) (hts _ kF_9_178) (fun _ h9 => h9) rfl d_Md_openBar_34 ?_
  refine lv_aload_n hx hb d_Md_openBar_37 rfl (lv_at hl 0 rfl) ?_
  refine va_get (D := (dC, dI)) (ci := 9) (v := .ref (ad_md 24)) (C := RX9) (T := TX9) (N := 46) hx hb hts in_X9 hown hK hP 0 rfl rfl 30 (by decide) (hts _ kF_9_84) (fun _ h9 => h9) rfl d_Md_openBar_38 ?_
  refine lv_aload_n hx hb d_Md_openBar_41 rfl (lv_at hl 0 rfl) ?_
  refine va_get (D := (dC, dI)) (ci := 9) (v := .int (md5.1 5)) (C := RX9) (T := TX9) (N := 46) hx hb hts in_X9 hown hK hP 0 rfl rfl 28 (by decide) (hts _ kF_9_178) (fun _ h9 => h9) rfl d_Md_openBar_42 ?_
  obtain ⟨hi6, hf⟩ := op_if hf
  refine va_lald (f := md5.2.2 7) hx hb hK hP 25 1 rfl rfl (ix_in hi6) d_Md_openBar_45 ?_
  obtain ⟨hi7, hf⟩ := op_if hf
  refine va_last (f := md5.2.2 8) hx hb hK hP hD hS 28 1 rfl rfl (ix_in hi7) d_Md_openBar_46 (fun H locs hP hD hS => ?_)
  rw [wu_Md_l8] at hP hD
  obtain ⟨md8, hmd8, hf⟩ := op_b hf
  have hP : va_P (dC, dI) vwCl (w_Md_ h_md ad_md tC md8) H := by rw [← Option.some.inj hmd8]; exact hP
  have hD : va_D A (w_Md_ h_md ad_md tC md8) := by rw [← Option.some.inj hmd8]; exact hD
  refine lv_aload_n hx hb d_Md_openBar_47 rfl (lv_at hl 0 rfl) ?_
  refine va_get (D := (dC, dI)) (ci := 9) (v := .ref (ad_md 25)) (C := RX9) (T := TX9) (N := 46) hx hb hts in_X9 hown hK hP 0 rfl rfl 31 (by decide) (hts _ kF_9_87) (fun _ h9 => h9) rfl d_Md_openBar_48 ?_
  refine lv_aload_n hx hb d_Md_openBar_51 rfl (lv_at hl 0 rfl) ?_
  refine va_get (D := (dC, dI)) (ci := 9) (v := .int (md8.1 5)) (C := RX9) (T := TX9) (N := 46) hx hb hts in_X9 hown hK hP 0 rfl rfl 28 (by decide) (hts _ kF_9_178) (fun _ h9 => h9) rfl d_Md_openBar_52 ?_
  refine lv_iconst (v := 0) hx hb d_Md_openBar_55 (by decide) ?_
  obtain ⟨hi9, hf⟩ := op_if hf
  refine va_iast (f := md8.2.1 17) hx hb hK hP hD hS 26 0 rfl rfl (ix_in hi9) d_Md_openBar_56 (fun H locs hP hD hS => ?_)
  rw [wu_Md_a17] at hP hD
  obtain ⟨md10, hmd10, hf⟩ := op_b hf
  have hP : va_P (dC, dI) vwCl (w_Md_ h_md ad_md tC md10) H := by rw [← Option.some.inj hmd10]; exact hP
  have hD : va_D A (w_Md_ h_md ad_md tC md10) := by rw [← Option.some.inj hmd10]; exact hD
  refine lv_aload_n hx hb d_Md_openBar_57 rfl (lv_at hl 0 rfl) ?_
  refine lv_dup hx hb d_Md_openBar_58 rfl ?_
  refine va_get (D := (dC, dI)) (ci := 9) (v := .int (md10.1 5)) (C := RX9) (T := TX9) (N := 46) hx hb hts in_X9 hown hK hP 0 rfl rfl 28 (by decide) (hts _ kF_9_178) (fun _ h9 => h9) rfl d_Md_openBar_59 ?_
  refine lv_iconst (v := 1) hx hb d_Md_openBar_62 (by decide) ?_
  refine lv_iadd hx hb d_Md_openBar_63 ?_
  refine va_put (D := (dC, dI)) (ci := 9) (v := .int ((md10.1 5) + 1)) (ty := .int) (C := RX9) (T := TX9) (N := 46) hx hb hts in_X9 tyX9 tyX9_ok nmX9 hown hK hP hD hS 0 (fs := [.ref (ad_md 0), .int (md10.1 0), .int (md10.1 1), .ref (ad_md 1), .ref (ad_md 2), .ref (ad_md 3), .int (md10.1 2), .ref (ad_md 4), .ref (ad_md 5), .ref (ad_md 6), .ref (ad_md 7), .ref (ad_md 8), .ref (ad_md 9), .ref (ad_md 10), .ref (ad_md 11), .ref (ad_md 12), .ref (ad_md 13), .ref (ad_md 14), .ref (ad_md 15), .int (md10.1 3), .ref (ad_md 16), .ref (ad_md 17), .ref (ad_md 18), .ref (ad_md 19), .ref (ad_md 20), .ref (ad_md 21), .ref (ad_md 22), .int (md10.1 4), .int (md10.1 5), .ref (ad_md 23), .ref (ad_md 24), .ref (ad_md 25), .ref (ad_md 26), .ref (ad_md 27), .int (md10.1 6), .int (md10.1 7), .int (md10.1 8), .ref (ad_md 28), .ref (ad_md 29), .ref (ad_md 30), .ref (ad_md 31), .ref (ad_md 32), .ref (ad_md 33), .ref (ad_md 34), .ref (ad_md 35), .int (md10.1 9)]) rfl rfl 28 (by decide) (hts _ kF_9_178) (fun _ h9 => h9) rfl (by decide +kernel) (rfl) (rfl) (Nat.le_of_ble_eq_true rfl) d_Md_openBar_64 (fun H locs hP hD hS => ?_)
  rw [wu_Md_s5] at hP hD
  obtain ⟨md11, hmd11, hf⟩ := op_b hf
  have hP : va_P (dC, dI) vwCl (w_Md_ h_md ad_md tC md11) H := by rw [← Option.some.inj hmd11]; exact hP
  have hD : va_D A (w_Md_ h_md ad_md tC md11) := by rw [← Option.some.inj hmd11]; exact hD
  refine lv_aload_n hx hb d_Md_openBar_67 rfl (lv_at hl 0 rfl) ?_
  refine va_get (D := (dC, dI)) (ci := 9) (v := .ref (ad_md 15)) (C := RX9) (T := TX9) (N := 46) hx hb hts in_X9 hown hK hP 0 rfl rfl 18 (by decide) (hts _ kF_9_57) (fun _ h9 => h9) rfl d_Md_openBar_68 ?_
  refine lv_iload_n hx hb d_Md_openBar_71 rfl (lv_at hl 2 rfl) ?_
  refine lv_dup2_11 hx hb d_Md_openBar_72 rfl rfl ?_
  obtain ⟨hi12, hf⟩ := op_if hf
  refine va_iald (f := md11.2.1 9) hx hb hK hP 16 0 rfl rfl (ix_in hi12) d_Md_openBar_73 ?_
  refine lv_iconst (v := 1) hx hb d_Md_openBar_74 (by decide) ?_
  refine lv_isub hx hb d_Md_openBar_75 ?_
  obtain ⟨hi13, hf⟩ := op_if hf
  refine va_iast (f := md11.2.1 9) hx hb hK hP hD hS 16 0 rfl rfl (ix_in hi13) d_Md_openBar_76 (fun H locs hP hD hS => ?_)
  rw [wu_Md_a9] at hP hD
  obtain ⟨md14, hmd14, hf⟩ := op_b hf
  have hP : va_P (dC, dI) vwCl (w_Md_ h_md ad_md tC md14) H := by rw [← Option.some.inj hmd14]; exact hP
  have hD : va_D A (w_Md_ h_md ad_md tC md14) := by rw [← Option.some.inj hmd14]; exact hD
  obtain rfl := Option.some.inj hf
  subst hQ
  subst hAe
  exact W.vret hx hb hr (fun t ht hW => ⟨⟨_, _, rfl, ⟨rfl, rfl⟩, by rw [ht]; exact hP, hD⟩, hS.F ht⟩) hS.2.2 d_Md_openBar_77
def f_Md_put (md : MS) (p1 : Int32) (p2 : Int32) : Option (Unit × MS) := if ix p1 60 then if ix p2 60 then if ix ((60 * p1) + ((md.2.1 17) p1.toNatClampNeg)) 3600 then (some (sA md 18 (upd (md.2.1 18) ((60 * p1) + ((md.2.1 17) p1.toNatClampNeg)).toNatClampNeg ((md.2.1 10) p2.toNatClampNeg)))).bind fun md4 => if ix p1 60 then if ix p1 60 then (some (sA md4 17 (upd (md4.2.1 17) p1.toNatClampNeg (((md4.2.1 17) p1.toNatClampNeg) + 1)))).bind fun md7 => if ix p1 60 then if ix p2 60 then if ix p1 60 then (some (sL md7 8 (vp_updL (md7.2.2 8) p1.toNatClampNeg (((md7.2.2 8) p1.toNatClampNeg) - ((md7.2.2 6) p2.toNatClampNeg))))).bind fun md11 => some ((), md11) else none else none else none else none else none else none else none else none
def rm_Md_put : Room := { frames := 0, cells := 0, slots := 0, locals := 0 }
set_option maxHeartbeats 4000000 in
set_option maxRecDepth 100000 in
theorem m_Md_put (l : Launch) (dC : Nat → ClassId) (dI : Nat → Nat → Nat) (tC : Nat → ClassId) (h_md : Nat) (ad_md : Nat → Nat) (md : MS) (p1 : Int32) (p2 : Int32) (R : Unit × MS) (hf : f_Md_put md p1 p2 = some R) (sz : Nat) : Met l y_Md_put w_Md_put rm_Md_put (wrP (dC, dI) tC (w_Md_ h_md ad_md tC md) sz [.ref h_md, .int p1, .int p2]) (wrQ (dC, dI) (w_Md_ h_md ad_md tC md) sz (fun r w => r = none ∧ w = (w_Md_ h_md ad_md tC R.2))) 0 0 (va_A (w_Md_ h_md ad_md tC md) sz) := by
  refine Met.ofW (cc := c_Md_put) (maxL := 3) (ret := none) (by decide) rfl ?_
  intro p e s m args below meth c s₁ B hml hv
  obtain ⟨hav, hsz, hP, hK, hD0⟩ := hv
  have hx := B.exec
  have hb := B.bytes
  have hr := B.returns
  have hts : ∀ w ∈ gw, w.before args s = true := fun w h => atoms_spec (ws := w_Md_put) B.pre w (List.mem_cons_of_mem _ h)
  have hown : s.vm.findClass RX9 = some m.cls := findClass_of_methodNamed B.named
  have hlocks := B.notSynchronized
  subst hsz
  have hD := hD0.self (sz := s.heap.size)
  obtain ⟨A, hAe⟩ : ∃ z, z = va_A (w_Md_ h_md ad_md tC md) s.heap.size := ⟨_, rfl⟩
  rw [← hAe] at hD
  have hA : ∀ q : Nat, s.heap.size ≤ q → A q := fun q h => by rw [hAe]; exact Or.inr h
  have hS : va_S A s.heap s.heap [] := va_S.rf
  refine q_w (R := rm_Md_put) (fun Q hQ => ?_)
  refine en_w (av := [.ref h_md, .int p1, .int p2]) hav (Nat.le_of_ble_eq_true rfl) (fun ls hl => ?_)
  have hl : lv_has ls 3 [(0, .ref h_md), (1, .int p1), (2, .int p2)] := hl
  unfold f_Md_put at hf
  refine lv_aload_n hx hb d_Md_put_0 rfl (lv_at hl 0 rfl) ?_
  refine va_get (D := (dC, dI)) (ci := 9) (v := .ref (ad_md 26)) (C := RX9) (T := TX9) (N := 46) hx hb hts in_X9 hown hK hP 0 rfl rfl 32 (by decide) (hts _ kF_9_90) (fun _ h9 => h9) rfl d_Md_put_1 ?_
  refine lv_bipush (v := 60) hx hb d_Md_put_4 (by decide) ?_
  refine lv_iload_n hx hb d_Md_put_6 rfl (lv_at hl 1 rfl) ?_
  refine lv_imul hx hb d_Md_put_7 ?_
  refine lv_aload_n hx hb d_Md_put_8 rfl (lv_at hl 0 rfl) ?_
  refine va_get (D := (dC, dI)) (ci := 9) (v := .ref (ad_md 25)) (C := RX9) (T := TX9) (N := 46) hx hb hts in_X9 hown hK hP 0 rfl rfl 31 (by decide) (hts _ kF_9_87) (fun _ h9 => h9) rfl d_Md_put_9 ?_
  refine lv_iload_n hx hb d_Md_put_12 rfl (lv_at hl 1 rfl) ?_
  obtain ⟨hi1, hf⟩ := op_if hf
  refine va_iald (f := md.2.1 17) hx hb hK hP 26 0 rfl rfl (ix_in hi1) d_Md_put_13 ?_
  refine lv_iadd hx hb d_Md_put_14 ?_
  refine lv_aload_n hx hb d_Md_put_15 rfl (lv_at hl 0 rfl) ?_
  refine va_get (D := (dC, dI)) (ci := 9) (v := .ref (ad_md 16)) (C := RX9) (T := TX9) (N := 46) hx hb hts in_X9 hown hK hP 0 rfl rfl 20 (by decide) (hts _ kF_9_60) (fun _ h9 => h9) rfl d_Md_put_16 ?_
  refine lv_iload_n hx hb d_Md_put_19 rfl (lv_at hl 2 rfl) ?_
  obtain ⟨hi2, hf⟩ := op_if hf
  refine va_iald (f := md.2.1 10) hx hb hK hP 17 0 rfl rfl (ix_in hi2) d_Md_put_20 ?_
  obtain ⟨hi3, hf⟩ := op_if hf
  refine va_iast (f := md.2.1 18) hx hb hK hP hD hS 27 0 rfl rfl (ix_in hi3) d_Md_put_21 (fun H locs hP hD hS => ?_)
  rw [wu_Md_a18] at hP hD
  obtain ⟨md4, hmd4, hf⟩ := op_b hf
  have hP : va_P (dC, dI) vwCl (w_Md_ h_md ad_md tC md4) H := by rw [← Option.some.inj hmd4]; exact hP
  have hD : va_D A (w_Md_ h_md ad_md tC md4) := by rw [← Option.some.inj hmd4]; exact hD
  refine lv_aload_n hx hb d_Md_put_22 rfl (lv_at hl 0 rfl) ?_
  refine va_get (D := (dC, dI)) (ci := 9) (v := .ref (ad_md 25)) (C := RX9) (T := TX9) (N := 46) hx hb hts in_X9 hown hK hP 0 rfl rfl 31 (by decide) (hts _ kF_9_87) (fun _ h9 => h9) rfl d_Md_put_23 ?_
  refine lv_iload_n hx hb d_Md_put_26 rfl (lv_at hl 1 rfl) ?_
  refine lv_dup2_11 hx hb d_Md_put_27 rfl rfl ?_
  obtain ⟨hi5, hf⟩ := op_if hf
  refine va_iald (f := md4.2.1 17) hx hb hK hP 26 0 rfl rfl (ix_in hi5) d_Md_put_28 ?_
  refine lv_iconst (v := 1) hx hb d_Md_put_29 (by decide) ?_
  refine lv_iadd hx hb d_Md_put_30 ?_
  obtain ⟨hi6, hf⟩ := op_if hf
  refine va_iast (f := md4.2.1 17) hx hb hK hP hD hS 26 0 rfl rfl (ix_in hi6) d_Md_put_31 (fun H locs hP hD hS => ?_)
  rw [wu_Md_a17] at hP hD
  obtain ⟨md7, hmd7, hf⟩ := op_b hf
  have hP : va_P (dC, dI) vwCl (w_Md_ h_md ad_md tC md7) H := by rw [← Option.some.inj hmd7]; exact hP
  have hD : va_D A (w_Md_ h_md ad_md tC md7) := by rw [← Option.some.inj hmd7]; exact hD
  refine lv_aload_n hx hb d_Md_put_32 rfl (lv_at hl 0 rfl) ?_
  refine va_get (D := (dC, dI)) (ci := 9) (v := .ref (ad_md 27)) (C := RX9) (T := TX9) (N := 46) hx hb hts in_X9 hown hK hP 0 rfl rfl 33 (by decide) (hts _ kF_9_93) (fun _ h9 => h9) rfl d_Md_put_33 ?_
  refine lv_iload_n hx hb d_Md_put_36 rfl (lv_at hl 1 rfl) ?_
  refine lv_dup2_11 hx hb d_Md_put_37 rfl rfl ?_
  obtain ⟨hi8, hf⟩ := op_if hf
  refine va_lald (f := md7.2.2 8) hx hb hK hP 28 1 rfl rfl (ix_in hi8) d_Md_put_38 ?_
  refine lv_aload_n hx hb d_Md_put_39 rfl (lv_at hl 0 rfl) ?_
  refine va_get (D := (dC, dI)) (ci := 9) (v := .ref (ad_md 17)) (C := RX9) (T := TX9) (N := 46) hx hb hts in_X9 hown hK hP 0 rfl rfl 21 (by decide) (hts _ kF_9_63) (fun _ h9 => h9) rfl d_Md_put_40 ?_
  refine lv_iload_n hx hb d_Md_put_43 rfl (lv_at hl 2 rfl) ?_
  obtain ⟨hi9, hf⟩ := op_if hf
  refine va_lald (f := md7.2.2 6) hx hb hK hP 18 1 rfl rfl (ix_in hi9) d_Md_put_44 ?_
  refine lv_lsub hx hb d_Md_put_45 ?_
  obtain ⟨hi10, hf⟩ := op_if hf
  refine va_last (f := md7.2.2 8) hx hb hK hP hD hS 28 1 rfl rfl (ix_in hi10) d_Md_put_46 (fun H locs hP hD hS => ?_)
  rw [wu_Md_l8] at hP hD
  obtain ⟨md11, hmd11, hf⟩ := op_b hf
  have hP : va_P (dC, dI) vwCl (w_Md_ h_md ad_md tC md11) H := by rw [← Option.some.inj hmd11]; exact hP
  have hD : va_D A (w_Md_ h_md ad_md tC md11) := by rw [← Option.some.inj hmd11]; exact hD
  obtain rfl := Option.some.inj hf
  subst hQ
  subst hAe
  exact W.vret hx hb hr (fun t ht hW => ⟨⟨_, _, rfl, ⟨rfl, rfl⟩, by rw [ht]; exact hP, hD⟩, hS.F ht⟩) hS.2.2 d_Md_put_47
def l_Md_kindFor_7 : Nat → Int32 → Int64 → Int32 → Int32 → MS → Option (Int32 × Int32)
  | 0, _, _, _, _, _ => none
  | n + 1, x1, x2, x4, x5, md => if ix x1 41 then (if ((md.2.1 7) x1.toNatClampNeg) ≤ x5 then some (x4, x5) else if ix ((3 * x1) + x5) 123 then (some ((md.2.2 5) ((3 * x1) + x5).toNatClampNeg) : Option Int64).bind fun v5 => if ix x5 3 then (if ((md.2.1 9) x5.toNatClampNeg) ≤ 0 then l_Md_kindFor_7 n x1 x2 x4 (x5 + 1) md else (if v5 < x2 then l_Md_kindFor_7 n x1 x2 x4 (x5 + 1) md else (if x4 = (-2) then l_Md_kindFor_7 n x1 x2 x5 (x5 + 1) md else if ix ((3 * x1) + x4) 123 then (if ((md.2.2 5) ((3 * x1) + x4).toNatClampNeg) ≤ v5 then l_Md_kindFor_7 n x1 x2 x4 (x5 + 1) md else l_Md_kindFor_7 n x1 x2 x5 (x5 + 1) md) else none))) else none else none) else none
def f_Md_kindFor (md : MS) (p1 : Int32) (p2 : Int64) : Option (Int32) := (l_Md_kindFor_7 fu p1 p2 (-2) 0 md).bind fun q1 => some q1.1
def rm_Md_kindFor : Room := { frames := 0, cells := 0, slots := 0, locals := 0 }
set_option maxHeartbeats 4000000 in
set_option maxRecDepth 100000 in
theorem m_Md_kindFor (l : Launch) (dC : Nat → ClassId) (dI : Nat → Nat → Nat) (tC : Nat → ClassId) (h_md : Nat) (ad_md : Nat → Nat) (md : MS) (p1 : Int32) (p2 : Int64) (R : Int32) (H : Heap) (hP : va_P (dC, dI) vwCl (w_Md_ h_md ad_md tC md) H) (hf : f_Md_kindFor md p1 p2 = some R) : Met l y_Md_kindFor w_Md_kindFor rm_Md_kindFor (roP (dC, dI) tC H [.ref h_md, .int p1, .long p2]) (roQ H (some (.int R))) 0 0 (fun _ => False) := by
  refine Met.ofW (cc := c_Md_kindFor) (maxL := 8) (ret := (some (.int))) (by decide) rfl ?_
  intro p e s m args below meth c s₁ B hml hv
  obtain ⟨hav, hH, hK⟩ := hv
  have hx := B.exec
  have hb := B.bytes
  have hr := B.returns
  have hts : ∀ w ∈ gw, w.before args s = true := fun w h => atoms_spec (ws := w_Md_kindFor) B.pre w (List.mem_cons_of_mem _ h)
  have hown : s.vm.findClass RX9 = some m.cls := findClass_of_methodNamed B.named
  have hlocks := B.notSynchronized
  subst hH
  refine q_w (R := rm_Md_kindFor) (fun Q hQ => ?_)
  refine en_w (av := [.ref h_md, .int p1, .long p2]) hav (Nat.le_of_ble_eq_true rfl) (fun ls hl => ?_)
  have hl : lv_has ls 8 [(0, .ref h_md), (1, .int p1), (2, .long p2)] := hl
  unfold f_Md_kindFor at hf
  refine lv_bipush (v := (-2)) hx hb d_Md_kindFor_0 (by decide) ?_
  refine lv_istore (lv' := [(4, .int (-2)), (0, .ref h_md), (1, .int p1), (2, .long p2)]) hx hb d_Md_kindFor_2 hl (by decide) rfl (fun ls hl => ?_)
  refine lv_iconst (v := 0) hx hb d_Md_kindFor_4 (by decide) ?_
  refine lv_istore (lv' := [(5, .int 0), (4, .int (-2)), (0, .ref h_md), (1, .int p1), (2, .long p2)]) hx hb d_Md_kindFor_5 hl (by decide) rfl (fun ls hl => ?_)
  have lp_7 : ∀ (n : Nat) (x1 : Int32) (x2 : Int64) (x4 : Int32) (x5 : Int32) (Rl : Int32 × Int32), l_Md_kindFor_7 n x1 x2 x4 x5 md = some Rl → ∀ ls : Array Slot, lv_has ls 8 [(5, .int x5), (4, .int x4), (0, .ref h_md), (1, .int x1), (2, .long x2)] → (∀ ls : Array Slot, lv_has ls 8 [(5, .int Rl.2), (4, .int Rl.1), (0, .ref h_md), (1, .int x1), (2, .long x2)] → W p l e rm_Md_kindFor s m args below meth c s.heap [] 0 0 Q (F0 m 82 ls [])) → W p l e rm_Md_kindFor s m args below meth c s.heap [] 0 0 Q (F0 m 7 ls []) := by
    intro n
    induction n with
    | zero => intro x1 x2 x4 x5 Rl hf; cases hf
    | succ n ih_7 =>
      intro x1 x2 x4 x5 Rl hf ls hl Kk
      rw [l_Md_kindFor_7] at hf
      refine lv_iload hx hb d_Md_kindFor_7 (lv_at hl 0 rfl) ?_
      refine lv_aload_n hx hb d_Md_kindFor_9 rfl (lv_at hl 2 rfl) ?_
      refine va_get (D := (dC, dI)) (ci := 9) (v := .ref (ad_md 12)) (C := RX9) (T := TX9) (N := 46) hx hb hts in_X9 hown hK hP 0 rfl rfl 15 (by decide) (hts _ kF_9_48) (fun _ h9 => h9) rfl d_Md_kindFor_10 ?_
      refine lv_iload_n hx hb d_Md_kindFor_13 rfl (lv_at hl 3 rfl) ?_
      obtain ⟨hi2, hf⟩ := op_if hf
      refine va_iald (f := md.2.1 7) hx hb hK hP 13 0 rfl rfl (ix_in hi2) d_Md_kindFor_14 ?_
      refine lv_icmp_ge (tgt := 82) hx hb d_Md_kindFor_15 (by decide) (fun c3 => ?_) (fun c3 => ?_)
      · have hf := op_t hf c3
        obtain rfl := Option.some.inj hf
        exact Kk _ (lv_sub hl [0, 1, 2, 3, 4] rfl)
      · have hf := op_e hf c3
        refine lv_aload_n hx hb d_Md_kindFor_18 rfl (lv_at hl 2 rfl) ?_
        refine va_get (D := (dC, dI)) (ci := 9) (v := .ref (ad_md 13)) (C := RX9) (T := TX9) (N := 46) hx hb hts in_X9 hown hK hP 0 rfl rfl 16 (by decide) (hts _ kF_9_51) (fun _ h9 => h9) rfl d_Md_kindFor_19 ?_
        refine lv_iconst (v := 3) hx hb d_Md_kindFor_22 (by decide) ?_
        refine lv_iload_n hx hb d_Md_kindFor_23 rfl (lv_at hl 3 rfl) ?_
        refine lv_imul hx hb d_Md_kindFor_24 ?_
        refine lv_iload hx hb d_Md_kindFor_25 (lv_at hl 0 rfl) ?_
        refine lv_iadd hx hb d_Md_kindFor_27 ?_
        obtain ⟨hi4, hf⟩ := op_if hf
        refine va_lald (f := md.2.2 5) hx hb hK hP 14 1 rfl rfl (ix_in hi4) d_Md_kindFor_28 ?_
        obtain ⟨v5, hv5, hf⟩ := op_b hf
        refine rw_l (y := v5) (Option.some.inj hv5) ?_
        refine lv_lstore (lv' := [(6, .long v5), (5, .int x5), (4, .int x4), (0, .ref h_md), (1, .int x1), (2, .long x2)]) hx hb d_Md_kindFor_29 hl (by decide) rfl (fun ls hl => ?_)
        refine lv_aload_n hx hb d_Md_kindFor_31 rfl (lv_at hl 3 rfl) ?_
        refine va_get (D := (dC, dI)) (ci := 9) (v := .ref (ad_md 15)) (C := RX9) (T := TX9) (N := 46) hx hb hts in_X9 hown hK hP 0 rfl rfl 18 (by decide) (hts _ kF_9_57) (fun _ h9 => h9) rfl d_Md_kindFor_32 ?_
        refine lv_iload hx hb d_Md_kindFor_35 (lv_at hl 1 rfl) ?_
        obtain ⟨hi6, hf⟩ := op_if hf
        refine va_iald (f := md.2.1 9) hx hb hK hP 16 0 rfl rfl (ix_in hi6) d_Md_kindFor_37 ?_
        refine lv_if_le (tgt := 76) hx hb d_Md_kindFor_38 (by decide) (fun c7 => ?_) (fun c7 => ?_)
        · have hf := op_t hf c7
          refine lv_iinc (v := x5 + 1) (lv' := [(5, .int (x5 + 1)), (6, .long v5), (4, .int x4), (0, .ref h_md), (1, .int x1), (2, .long x2)]) hx hb d_Md_kindFor_76 hl (k := 1) rfl rfl (by decide) rfl (fun ls hl => ?_)
          refine lv_goto (tgt := 7) hx hb d_Md_kindFor_79 (by decide) ?_
          exact ih_7 x1 x2 x4 (x5 + 1) Rl hf _ (lv_sub hl [0, 2, 3, 4, 5] rfl) Kk
        · have hf := op_e hf c7
          refine lv_lload hx hb d_Md_kindFor_41 (lv_at hl 0 rfl) ?_
          refine lv_lload_n hx hb d_Md_kindFor_43 rfl (lv_at hl 5 rfl) ?_
          refine W.lcmp hx hb d_Md_kindFor_44 ?_
          refine lv_if_lt (tgt := 76) hx hb d_Md_kindFor_45 (by decide) (fun c8 => ?_) (fun c8 => ?_)
          · have c8 := (lg_cmp_lt _ _).mp c8
            have hf := op_t hf c8
            refine lv_iinc (v := x5 + 1) (lv' := [(5, .int (x5 + 1)), (6, .long v5), (4, .int x4), (0, .ref h_md), (1, .int x1), (2, .long x2)]) hx hb d_Md_kindFor_76 hl (k := 1) rfl rfl (by decide) rfl (fun ls hl => ?_)
            refine lv_goto (tgt := 7) hx hb d_Md_kindFor_79 (by decide) ?_
            exact ih_7 x1 x2 x4 (x5 + 1) Rl hf _ (lv_sub hl [0, 2, 3, 4, 5] rfl) Kk
          · have c8 := fun h9 => c8 ((lg_cmp_lt _ _).mpr h9)
            have hf := op_e hf c8
            refine lv_iload hx hb d_Md_kindFor_48 (lv_at hl 2 rfl) ?_
            refine lv_bipush (v := (-2)) hx hb d_Md_kindFor_50 (by decide) ?_
            refine lv_icmp_eq (tgt := 72) hx hb d_Md_kindFor_52 (by decide) (fun c9 => ?_) (fun c9 => ?_)
            · have hf := op_t hf c9
              refine lv_iload hx hb d_Md_kindFor_72 (lv_at hl 1 rfl) ?_
              refine lv_istore (lv' := [(4, .int x5), (6, .long v5), (5, .int x5), (0, .ref h_md), (1, .int x1), (2, .long x2)]) hx hb d_Md_kindFor_74 hl (by decide) rfl (fun ls hl => ?_)
              refine lv_iinc (v := x5 + 1) (lv' := [(5, .int (x5 + 1)), (4, .int x5), (6, .long v5), (0, .ref h_md), (1, .int x1), (2, .long x2)]) hx hb d_Md_kindFor_76 hl (k := 2) rfl rfl (by decide) rfl (fun ls hl => ?_)
              refine lv_goto (tgt := 7) hx hb d_Md_kindFor_79 (by decide) ?_
              exact ih_7 x1 x2 x5 (x5 + 1) Rl hf _ (lv_sub hl [0, 1, 3, 4, 5] rfl) Kk
            · have hf := op_e hf c9
              refine lv_lload hx hb d_Md_kindFor_55 (lv_at hl 0 rfl) ?_
              refine lv_aload_n hx hb d_Md_kindFor_57 rfl (lv_at hl 3 rfl) ?_
              refine va_get (D := (dC, dI)) (ci := 9) (v := .ref (ad_md 13)) (C := RX9) (T := TX9) (N := 46) hx hb hts in_X9 hown hK hP 0 rfl rfl 16 (by decide) (hts _ kF_9_51) (fun _ h9 => h9) rfl d_Md_kindFor_58 ?_
              refine lv_iconst (v := 3) hx hb d_Md_kindFor_61 (by decide) ?_
              refine lv_iload_n hx hb d_Md_kindFor_62 rfl (lv_at hl 4 rfl) ?_
              refine lv_imul hx hb d_Md_kindFor_63 ?_
              refine lv_iload hx hb d_Md_kindFor_64 (lv_at hl 2 rfl) ?_
              refine lv_iadd hx hb d_Md_kindFor_66 ?_
              obtain ⟨hi10, hf⟩ := op_if hf
              refine va_lald (f := md.2.2 5) hx hb hK hP 14 1 rfl rfl (ix_in hi10) d_Md_kindFor_67 ?_
              refine W.lcmp hx hb d_Md_kindFor_68 ?_
              refine lv_if_ge (tgt := 76) hx hb d_Md_kindFor_69 (by decide) (fun c11 => ?_) (fun c11 => ?_)
              · have c11 := (lg_cmp_ge _ _).mp c11
                have hf := op_t hf c11
                refine lv_iinc (v := x5 + 1) (lv' := [(5, .int (x5 + 1)), (6, .long v5), (4, .int x4), (0, .ref h_md), (1, .int x1), (2, .long x2)]) hx hb d_Md_kindFor_76 hl (k := 1) rfl rfl (by decide) rfl (fun ls hl => ?_)
                refine lv_goto (tgt := 7) hx hb d_Md_kindFor_79 (by decide) ?_
                exact ih_7 x1 x2 x4 (x5 + 1) Rl hf _ (lv_sub hl [0, 2, 3, 4, 5] rfl) Kk
              · have c11 := fun h9 => c11 ((lg_cmp_ge _ _).mpr h9)
                have hf := op_e hf c11
                refine lv_iload hx hb d_Md_kindFor_72 (lv_at hl 1 rfl) ?_
                refine lv_istore (lv' := [(4, .int x5), (6, .long v5), (5, .int x5), (0, .ref h_md), (1, .int x1), (2, .long x2)]) hx hb d_Md_kindFor_74 hl (by decide) rfl (fun ls hl => ?_)
                refine lv_iinc (v := x5 + 1) (lv' := [(5, .int (x5 + 1)), (4, .int x5), (6, .long v5), (0, .ref h_md), (1, .int x1), (2, .long x2)]) hx hb d_Md_kindFor_76 hl (k := 2) rfl rfl (by decide) rfl (fun ls hl => ?_)
                refine lv_goto (tgt := 7) hx hb d_Md_kindFor_79 (by decide) ?_
                exact ih_7 x1 x2 x5 (x5 + 1) Rl hf _ (lv_sub hl [0, 1, 3, 4, 5] rfl) Kk
  obtain ⟨q1, hq1, hf⟩ := op_b hf
  refine lp_7 fu p1 p2 (-2) 0 q1 hq1 _ (lv_sub hl [0, 1, 2, 3, 4] rfl) ?_
  intro ls hl
  refine lv_iload hx hb d_Md_kindFor_82 (lv_at hl 1 rfl) ?_
  obtain rfl := Option.some.inj hf
  subst hQ
  exact W.iret (v := q1.1) hx hb hr (fun t ht hW => ⟨rfl, ht⟩) (fun q h => by cases h) d_Md_kindFor_84
def l_Md_cutInTurn_18 : Nat → Int32 → Int32 → Int32 → Int32 → MS → Option (Int32)
  | 0, _, _, _, _, _ => none
  | n + 1, x1, x2, x3, x4, md => (if (md.1 5) ≤ x4 then some (x4) else if ix x4 60 then if ix x3 60 then (if ((md.2.2 6) x3.toNatClampNeg) ≤ ((md.2.2 8) x4.toNatClampNeg) then some (x4) else l_Md_cutInTurn_18 n x1 x2 x3 (x4 + 1) md) else none else none)
def l_Md_cutInTurn_7 : Nat → Int32 → Int32 → Int32 → MS → Option (Int32 × MS)
  | 0, _, _, _, _ => none
  | n + 1, x1, x2, x3, md => (if (md.1 3) ≤ x3 then some (1, md) else (l_Md_cutInTurn_18 fu x1 x2 x3 x2 md).bind fun q3 => (if q3 = (md.1 5) then if ix x3 60 then (f_Md_kindFor md x1 ((md.2.2 6) x3.toNatClampNeg)).bind fun q10 => (if q10 = (-2) then some (0, md) else (f_Md_openBar md x1 q10).bind fun q12 => (f_Md_put q12.2 q3 x3).bind fun q13 => l_Md_cutInTurn_7 n x1 x2 (x3 + 1) q13.2) else none else (f_Md_put md q3 x3).bind fun q14 => l_Md_cutInTurn_7 n x1 x2 (x3 + 1) q14.2))
def f_Md_cutInTurn (md : MS) (p1 : Int32) : Option (Int32 × MS) := (some (md.1 5) : Option Int32).bind fun v1 => l_Md_cutInTurn_7 fu p1 v1 0 md
def rm_Md_cutInTurn : Room := { frames := 1, cells := 0, slots := 0, locals := 27 }
set_option maxHeartbeats 4000000 in
set_option maxRecDepth 100000 in
theorem m_Md_cutInTurn (l : Launch) (dC : Nat → ClassId) (dI : Nat → Nat → Nat) (tC : Nat → ClassId) (h_md : Nat) (ad_md : Nat → Nat) (md : MS) (p1 : Int32) (R : Int32 × MS) (hf : f_Md_cutInTurn md p1 = some R) (sz : Nat) : Met l y_Md_cutInTurn w_Md_cutInTurn rm_Md_cutInTurn (wrP (dC, dI) tC (w_Md_ h_md ad_md tC md) sz [.ref h_md, .int p1]) (wrQ (dC, dI) (w_Md_ h_md ad_md tC md) sz (fun r w => r = (some (.int R.1)) ∧ w = (w_Md_ h_md ad_md tC R.2))) 0 0 (va_A (w_Md_ h_md ad_md tC md) sz) := by
  refine Met.ofW (cc := c_Md_cutInTurn) (maxL := 6) (ret := (some (.boolean))) (by decide) rfl ?_
  intro p e s m args below meth c s₁ B hml hv
  obtain ⟨hav, hsz, hP, hK, hD0⟩ := hv
  have hx := B.exec
  have hb := B.bytes
  have hr := B.returns
  have hts : ∀ w ∈ gw, w.before args s = true := fun w h => atoms_spec (ws := w_Md_cutInTurn) B.pre w (List.mem_cons_of_mem _ h)
  have hown : s.vm.findClass RX9 = some m.cls := findClass_of_methodNamed B.named
  have hlocks := B.notSynchronized
  subst hsz
  have hD := hD0.self (sz := s.heap.size)
  obtain ⟨A, hAe⟩ : ∃ z, z = va_A (w_Md_ h_md ad_md tC md) s.heap.size := ⟨_, rfl⟩
  rw [← hAe] at hD
  have hA : ∀ q : Nat, s.heap.size ≤ q → A q := fun q h => by rw [hAe]; exact Or.inr h
  have hS : va_S A s.heap s.heap [] := va_S.rf
  refine q_w (R := rm_Md_cutInTurn) (fun Q hQ => ?_)
  refine en_w (av := [.ref h_md, .int p1]) hav (Nat.le_of_ble_eq_true rfl) (fun ls hl => ?_)
  have hl : lv_has ls 6 [(0, .ref h_md), (1, .int p1)] := hl
  unfold f_Md_cutInTurn at hf
  refine lv_aload_n hx hb d_Md_cutInTurn_0 rfl (lv_at hl 0 rfl) ?_
  refine va_get (D := (dC, dI)) (ci := 9) (v := .int (md.1 5)) (C := RX9) (T := TX9) (N := 46) hx hb hts in_X9 hown hK hP 0 rfl rfl 28 (by decide) (hts _ kF_9_178) (fun _ h9 => h9) rfl d_Md_cutInTurn_1 ?_
  obtain ⟨v1, hv1, hf⟩ := op_b hf
  refine rw_i (y := v1) (Option.some.inj hv1) ?_
  refine lv_istore_n (lv' := [(2, .int v1), (0, .ref h_md), (1, .int p1)]) hx hb d_Md_cutInTurn_4 rfl hl (by decide) rfl (fun ls hl => ?_)
  refine lv_iconst (v := 0) hx hb d_Md_cutInTurn_5 (by decide) ?_
  refine lv_istore_n (lv' := [(3, .int 0), (2, .int v1), (0, .ref h_md), (1, .int p1)]) hx hb d_Md_cutInTurn_6 rfl hl (by decide) rfl (fun ls hl => ?_)
  have lp_7 : ∀ (n : Nat) (x1 : Int32) (x2 : Int32) (x3 : Int32) (md : MS), l_Md_cutInTurn_7 n x1 x2 x3 md = some R → ∀ (H : Heap) (locs : List Loc), va_P (dC, dI) vwCl (w_Md_ h_md ad_md tC md) H → va_D A (w_Md_ h_md ad_md tC md) → va_S A s.heap H locs → ∀ ls : Array Slot, lv_has ls 6 [(3, .int x3), (2, .int x2), (0, .ref h_md), (1, .int x1)] → W p l e rm_Md_cutInTurn s m args below meth c H locs 0 0 Q (F0 m 7 ls []) := by
    intro n
    induction n with
    | zero => intro x1 x2 x3 md hf; cases hf
    | succ n ih_7 =>
      intro x1 x2 x3 md hf H locs hP hD hS ls hl
      rw [l_Md_cutInTurn_7] at hf
      refine lv_iload_n hx hb d_Md_cutInTurn_7 rfl (lv_at hl 0 rfl) ?_
      refine lv_aload_n hx hb d_Md_cutInTurn_8 rfl (lv_at hl 2 rfl) ?_
      refine va_get (D := (dC, dI)) (ci := 9) (v := .int (md.1 3)) (C := RX9) (T := TX9) (N := 46) hx hb hts in_X9 hown hK hP 0 rfl rfl 19 (by decide) (hts _ kF_9_175) (fun _ h9 => h9) rfl d_Md_cutInTurn_9 ?_
      refine lv_icmp_ge (tgt := 101) hx hb d_Md_cutInTurn_12 (by decide) (fun c2 => ?_) (fun c2 => ?_)
      · have hf := op_t hf c2
        refine lv_iconst (v := 1) hx hb d_Md_cutInTurn_101 (by decide) ?_
        obtain rfl := Option.some.inj hf
        subst hQ
        subst hAe
        exact W.zret (v := 1) (ty := .boolean) hx hb hr (by decide) (fun t ht hW => ⟨⟨_, _, rfl, ⟨rfl, rfl⟩, by rw [ht]; exact hP, hD⟩, hS.F ht⟩) hS.2.2 d_Md_cutInTurn_102
      · have hf := op_e hf c2
        refine lv_iload_n hx hb d_Md_cutInTurn_15 rfl (lv_at hl 1 rfl) ?_
        refine lv_istore (lv' := [(4, .int x2), (3, .int x3), (2, .int x2), (0, .ref h_md), (1, .int x1)]) hx hb d_Md_cutInTurn_16 hl (by decide) rfl (fun ls hl => ?_)
        have lp_18 : ∀ (n : Nat) (x1 : Int32) (x2 : Int32) (x3 : Int32) (x4 : Int32) (md : MS) (Rl : Int32), l_Md_cutInTurn_18 n x1 x2 x3 x4 md = some Rl → ∀ (H : Heap) (locs : List Loc), va_P (dC, dI) vwCl (w_Md_ h_md ad_md tC md) H → va_D A (w_Md_ h_md ad_md tC md) → va_S A s.heap H locs → ∀ ls : Array Slot, lv_has ls 6 [(4, .int x4), (3, .int x3), (2, .int x2), (0, .ref h_md), (1, .int x1)] → (∀ (H : Heap) (locs : List Loc), va_P (dC, dI) vwCl (w_Md_ h_md ad_md tC md) H → va_D A (w_Md_ h_md ad_md tC md) → va_S A s.heap H locs → ∀ ls : Array Slot, lv_has ls 6 [(4, .int Rl), (3, .int x3), (2, .int x2), (0, .ref h_md), (1, .int x1)] → W p l e rm_Md_cutInTurn s m args below meth c H locs 0 0 Q (F0 m 50 ls [])) → W p l e rm_Md_cutInTurn s m args below meth c H locs 0 0 Q (F0 m 18 ls []) := by
          intro n
          induction n with
          | zero => intro x1 x2 x3 x4 md Rl hf; cases hf
          | succ n ih_18 =>
            intro x1 x2 x3 x4 md Rl hf H locs hP hD hS ls hl Kk
            rw [l_Md_cutInTurn_18] at hf
            refine lv_iload hx hb d_Md_cutInTurn_18 (lv_at hl 0 rfl) ?_
            refine lv_aload_n hx hb d_Md_cutInTurn_20 rfl (lv_at hl 3 rfl) ?_
            refine va_get (D := (dC, dI)) (ci := 9) (v := .int (md.1 5)) (C := RX9) (T := TX9) (N := 46) hx hb hts in_X9 hown hK hP 0 rfl rfl 28 (by decide) (hts _ kF_9_178) (fun _ h9 => h9) rfl d_Md_cutInTurn_21 ?_
            refine lv_icmp_ge (tgt := 50) hx hb d_Md_cutInTurn_24 (by decide) (fun c4 => ?_) (fun c4 => ?_)
            · have hf := op_t hf c4
              obtain rfl := Option.some.inj hf
              exact Kk _ _ hP hD hS _ (lv_sub hl [0, 1, 2, 3, 4] rfl)
            · have hf := op_e hf c4
              refine lv_aload_n hx hb d_Md_cutInTurn_27 rfl (lv_at hl 3 rfl) ?_
              refine va_get (D := (dC, dI)) (ci := 9) (v := .ref (ad_md 27)) (C := RX9) (T := TX9) (N := 46) hx hb hts in_X9 hown hK hP 0 rfl rfl 33 (by decide) (hts _ kF_9_93) (fun _ h9 => h9) rfl d_Md_cutInTurn_28 ?_
              refine lv_iload hx hb d_Md_cutInTurn_31 (lv_at hl 0 rfl) ?_
              obtain ⟨hi5, hf⟩ := op_if hf
              refine va_lald (f := md.2.2 8) hx hb hK hP 28 1 rfl rfl (ix_in hi5) d_Md_cutInTurn_33 ?_
              refine lv_aload_n hx hb d_Md_cutInTurn_34 rfl (lv_at hl 3 rfl) ?_
              refine va_get (D := (dC, dI)) (ci := 9) (v := .ref (ad_md 17)) (C := RX9) (T := TX9) (N := 46) hx hb hts in_X9 hown hK hP 0 rfl rfl 21 (by decide) (hts _ kF_9_63) (fun _ h9 => h9) rfl d_Md_cutInTurn_35 ?_
              refine lv_iload_n hx hb d_Md_cutInTurn_38 rfl (lv_at hl 1 rfl) ?_
              obtain ⟨hi6, hf⟩ := op_if hf
              refine va_lald (f := md.2.2 6) hx hb hK hP 18 1 rfl rfl (ix_in hi6) d_Md_cutInTurn_39 ?_
              refine W.lcmp hx hb d_Md_cutInTurn_40 ?_
              refine lv_if_ge (tgt := 50) hx hb d_Md_cutInTurn_41 (by decide) (fun c7 => ?_) (fun c7 => ?_)
              · have c7 := (lg_cmp_ge _ _).mp c7
                have hf := op_t hf c7
                obtain rfl := Option.some.inj hf
                exact Kk _ _ hP hD hS _ (lv_sub hl [0, 1, 2, 3, 4] rfl)
              · have c7 := fun h9 => c7 ((lg_cmp_ge _ _).mpr h9)
                have hf := op_e hf c7
                refine lv_iinc (v := x4 + 1) (lv' := [(4, .int (x4 + 1)), (3, .int x3), (2, .int x2), (0, .ref h_md), (1, .int x1)]) hx hb d_Md_cutInTurn_44 hl (k := 0) rfl rfl (by decide) rfl (fun ls hl => ?_)
                refine lv_goto (tgt := 18) hx hb d_Md_cutInTurn_47 (by decide) ?_
                exact ih_18 x1 x2 x3 (x4 + 1) md Rl hf _ _ hP hD hS _ (lv_sub hl [0, 1, 2, 3, 4] rfl) Kk
        obtain ⟨q3, hq3, hf⟩ := op_b hf
        refine lp_18 fu x1 x2 x3 x2 md q3 hq3 _ _ hP hD hS _ (lv_sub hl [0, 1, 2, 3, 4] rfl) ?_
        intro H locs hP hD hS ls hl
        refine lv_iload hx hb d_Md_cutInTurn_50 (lv_at hl 0 rfl) ?_
        refine lv_aload_n hx hb d_Md_cutInTurn_52 rfl (lv_at hl 3 rfl) ?_
        refine va_get (D := (dC, dI)) (ci := 9) (v := .int (md.1 5)) (C := RX9) (T := TX9) (N := 46) hx hb hts in_X9 hown hK hP 0 rfl rfl 28 (by decide) (hts _ kF_9_178) (fun _ h9 => h9) rfl d_Md_cutInTurn_53 ?_
        refine lv_icmp_ne (tgt := 88) hx hb d_Md_cutInTurn_56 (by decide) (fun c8 => ?_) (fun c8 => ?_)
        · have hf := op_e hf c8
          refine lv_aload_n hx hb d_Md_cutInTurn_88 rfl (lv_at hl 3 rfl) ?_
          refine lv_iload hx hb d_Md_cutInTurn_89 (lv_at hl 0 rfl) ?_
          refine lv_iload_n hx hb d_Md_cutInTurn_91 rfl (lv_at hl 1 rfl) ?_
          obtain ⟨q14, hq14, hf⟩ := op_b hf
          have hPc := hP
          have hDc := hD
          have hFc := va_free (wc := (w_Md_ h_md ad_md tC md)) hD hS hA [0, 1, 2, 3, 4, 5, 6, 7, 8, 9, 10, 11, 12, 13, 14, 15, 16, 17, 18, 19, 20, 21, 22, 23, 24, 25, 26, 27, 28, 29, 30, 31, 32, 33, 34, 35, 36] rfl
          refine wr_go (va_runV (As := [.int q3, .int x3]) (rest := []) ⟨hx, hb, hml, hown, hts⟩ (m_Md_put l dC dI tC h_md ad_md md q3 x3 q14 hq14 _) (cwV 2 hts (gd_V kM_9_189 kI_Md_put kV_Md_put kZ_9 kC_Md_put) rfl rfl rfl (by decide +kernel) ⟨(Nat.le_of_ble_eq_true rfl), (Nat.le_of_ble_eq_true rfl)⟩) ⟨wr_blind, va_recv hK hP (ci := 9) (q0 := 0) rfl rfl, wr_pre hK hPc hDc⟩ rfl rfl hl.1 rfl (lv_room (Nat.le_of_ble_eq_true rfl)) d_Md_cutInTurn_92 ⟨(Nat.le_of_ble_eq_true rfl), (Nat.le_of_ble_eq_true rfl)⟩) hS hFc (fun r w1 H1 locs hw hP1 hD1 hk1 hS => ?_)
          obtain ⟨rfl, rfl⟩ := hw
          have hP := hP1
          have hD := hD1.weaken (fun _ q _ h => hFc q.1 h)
          clear hP1 hD1 hk1 hPc hDc hFc
          have hP : va_P (dC, dI) vwCl (w_Md_ h_md ad_md tC q14.2) _ := hP
          have hD : va_D A (w_Md_ h_md ad_md tC q14.2) := hD
          refine W.eq (g2 := F0 m 95 ls []) rfl ?_
          refine lv_iinc (v := x3 + 1) (lv' := [(3, .int (x3 + 1)), (4, .int q3), (2, .int x2), (0, .ref h_md), (1, .int x1)]) hx hb d_Md_cutInTurn_95 hl (k := 1) rfl rfl (by decide) rfl (fun ls hl => ?_)
          refine lv_goto (tgt := 7) hx hb d_Md_cutInTurn_98 (by decide) ?_
          exact ih_7 x1 x2 (x3 + 1) q14.2 hf _ _ hP hD hS _ (lv_sub hl [0, 2, 3, 4] rfl)
        · have hf := op_t hf c8
          refine lv_aload_n hx hb d_Md_cutInTurn_59 rfl (lv_at hl 3 rfl) ?_
          refine lv_iload_n hx hb d_Md_cutInTurn_60 rfl (lv_at hl 4 rfl) ?_
          refine lv_aload_n hx hb d_Md_cutInTurn_61 rfl (lv_at hl 3 rfl) ?_
          refine va_get (D := (dC, dI)) (ci := 9) (v := .ref (ad_md 17)) (C := RX9) (T := TX9) (N := 46) hx hb hts in_X9 hown hK hP 0 rfl rfl 21 (by decide) (hts _ kF_9_63) (fun _ h9 => h9) rfl d_Md_cutInTurn_62 ?_
          refine lv_iload_n hx hb d_Md_cutInTurn_65 rfl (lv_at hl 1 rfl) ?_
          obtain ⟨hi9, hf⟩ := op_if hf
          refine va_lald (f := md.2.2 6) hx hb hK hP 18 1 rfl rfl (ix_in hi9) d_Md_cutInTurn_66 ?_
          obtain ⟨q10, hq10, hf⟩ := op_b hf
          refine ro_go rfl (va_runV (As := [.int x1, .long ((md.2.2 6) x3.toNatClampNeg)]) (rest := []) ⟨hx, hb, hml, hown, hts⟩ (m_Md_kindFor l dC dI tC h_md ad_md md x1 ((md.2.2 6) x3.toNatClampNeg) q10 _ hP hq10) (cwV 2 hts (gd_V kM_9_181 kI_Md_kindFor kV_Md_kindFor kZ_9 kC_Md_kindFor) rfl rfl rfl (by decide +kernel) ⟨(Nat.le_of_ble_eq_true rfl), (Nat.le_of_ble_eq_true rfl)⟩) ⟨ro_blind, va_recv hK hP (ci := 9) (q0 := 0) rfl rfl, ro_pre hK⟩ rfl rfl hl.1 rfl (lv_room (Nat.le_of_ble_eq_true rfl)) d_Md_cutInTurn_67 ⟨(Nat.le_of_ble_eq_true rfl), (Nat.le_of_ble_eq_true rfl)⟩) ?_
          refine W.eq (g2 := F0 m 70 ls [.int q10]) rfl ?_
          refine lv_istore (lv' := [(5, .int q10), (4, .int q3), (3, .int x3), (2, .int x2), (0, .ref h_md), (1, .int x1)]) hx hb d_Md_cutInTurn_70 hl (by decide) rfl (fun ls hl => ?_)
          refine lv_iload hx hb d_Md_cutInTurn_72 (lv_at hl 0 rfl) ?_
          refine lv_bipush (v := (-2)) hx hb d_Md_cutInTurn_74 (by decide) ?_
          refine lv_icmp_ne (tgt := 81) hx hb d_Md_cutInTurn_76 (by decide) (fun c11 => ?_) (fun c11 => ?_)
          · have hf := op_e hf c11
            refine lv_aload_n hx hb d_Md_cutInTurn_81 rfl (lv_at hl 4 rfl) ?_
            refine lv_iload_n hx hb d_Md_cutInTurn_82 rfl (lv_at hl 5 rfl) ?_
            refine lv_iload hx hb d_Md_cutInTurn_83 (lv_at hl 0 rfl) ?_
            obtain ⟨q12, hq12, hf⟩ := op_b hf
            have hPc := hP
            have hDc := hD
            have hFc := va_free (wc := (w_Md_ h_md ad_md tC md)) hD hS hA [0, 1, 2, 3, 4, 5, 6, 7, 8, 9, 10, 11, 12, 13, 14, 15, 16, 17, 18, 19, 20, 21, 22, 23, 24, 25, 26, 27, 28, 29, 30, 31, 32, 33, 34, 35, 36] rfl
            refine wr_go (va_runV (As := [.int x1, .int q10]) (rest := []) ⟨hx, hb, hml, hown, hts⟩ (m_Md_openBar l dC dI tC h_md ad_md md x1 q10 q12 hq12 _) (cwV 2 hts (gd_V kM_9_185 kI_Md_openBar kV_Md_openBar kZ_9 kC_Md_openBar) rfl rfl rfl (by decide +kernel) ⟨(Nat.le_of_ble_eq_true rfl), (Nat.le_of_ble_eq_true rfl)⟩) ⟨wr_blind, va_recv hK hP (ci := 9) (q0 := 0) rfl rfl, wr_pre hK hPc hDc⟩ rfl rfl hl.1 rfl (lv_room (Nat.le_of_ble_eq_true rfl)) d_Md_cutInTurn_85 ⟨(Nat.le_of_ble_eq_true rfl), (Nat.le_of_ble_eq_true rfl)⟩) hS hFc (fun r w1 H1 locs hw hP1 hD1 hk1 hS => ?_)
            obtain ⟨rfl, rfl⟩ := hw
            have hP := hP1
            have hD := hD1.weaken (fun _ q _ h => hFc q.1 h)
            clear hP1 hD1 hk1 hPc hDc hFc
            have hP : va_P (dC, dI) vwCl (w_Md_ h_md ad_md tC q12.2) _ := hP
            have hD : va_D A (w_Md_ h_md ad_md tC q12.2) := hD
            refine W.eq (g2 := F0 m 88 ls []) rfl ?_
            refine lv_aload_n hx hb d_Md_cutInTurn_88 rfl (lv_at hl 4 rfl) ?_
            refine lv_iload hx hb d_Md_cutInTurn_89 (lv_at hl 1 rfl) ?_
            refine lv_iload_n hx hb d_Md_cutInTurn_91 rfl (lv_at hl 2 rfl) ?_
            obtain ⟨q13, hq13, hf⟩ := op_b hf
            have hPc := hP
            have hDc := hD
            have hFc := va_free (wc := (w_Md_ h_md ad_md tC q12.2)) hD hS hA [0, 1, 2, 3, 4, 5, 6, 7, 8, 9, 10, 11, 12, 13, 14, 15, 16, 17, 18, 19, 20, 21, 22, 23, 24, 25, 26, 27, 28, 29, 30, 31, 32, 33, 34, 35, 36] rfl
            refine wr_go (va_runV (As := [.int q3, .int x3]) (rest := []) ⟨hx, hb, hml, hown, hts⟩ (m_Md_put l dC dI tC h_md ad_md q12.2 q3 x3 q13 hq13 _) (cwV 2 hts (gd_V kM_9_189 kI_Md_put kV_Md_put kZ_9 kC_Md_put) rfl rfl rfl (by decide +kernel) ⟨(Nat.le_of_ble_eq_true rfl), (Nat.le_of_ble_eq_true rfl)⟩) ⟨wr_blind, va_recv hK hP (ci := 9) (q0 := 0) rfl rfl, wr_pre hK hPc hDc⟩ rfl rfl hl.1 rfl (lv_room (Nat.le_of_ble_eq_true rfl)) d_Md_cutInTurn_92 ⟨(Nat.le_of_ble_eq_true rfl), (Nat.le_of_ble_eq_true rfl)⟩) hS hFc (fun r w1 H1 locs hw hP1 hD1 hk1 hS => ?_)
            obtain ⟨rfl, rfl⟩ := hw
            have hP := hP1
            have hD := hD1.weaken (fun _ q _ h => hFc q.1 h)
            clear hP1 hD1 hk1 hPc hDc hFc
            have hP : va_P (dC, dI) vwCl (w_Md_ h_md ad_md tC q13.2) _ := hP
            have hD : va_D A (w_Md_ h_md ad_md tC q13.2) := hD
            refine W.eq (g2 := F0 m 95 ls []) rfl ?_
            refine lv_iinc (v := x3 + 1) (lv' := [(3, .int (x3 + 1)), (5, .int q10), (4, .int q3), (2, .int x2), (0, .ref h_md), (1, .int x1)]) hx hb d_Md_cutInTurn_95 hl (k := 2) rfl rfl (by decide) rfl (fun ls hl => ?_)
            refine lv_goto (tgt := 7) hx hb d_Md_cutInTurn_98 (by decide) ?_
            exact ih_7 x1 x2 (x3 + 1) q13.2 hf _ _ hP hD hS _ (lv_sub hl [0, 3, 4, 5] rfl)
          · have hf := op_t hf c11
            refine lv_iconst (v := 0) hx hb d_Md_cutInTurn_79 (by decide) ?_
            obtain rfl := Option.some.inj hf
            subst hQ
            subst hAe
            exact W.zret (v := 0) (ty := .boolean) hx hb hr (by decide) (fun t ht hW => ⟨⟨_, _, rfl, ⟨rfl, rfl⟩, by rw [ht]; exact hP, hD⟩, hS.F ht⟩) hS.2.2 d_Md_cutInTurn_80
  exact lp_7 fu p1 v1 0 md hf _ _ hP hD hS _ (lv_sub hl [0, 1, 2, 3] rfl)
def l_Md_lengthOfSet_5 : Nat → Int32 → Int64 → Int32 → MS → Option (Int64 × Int32)
  | 0, _, _, _, _ => none
  | n + 1, x1, x2, x4, md => (if (md.1 3) ≤ x4 then some (x2, x4) else (if ((x1 >>> ((((md.1 3) - 1) - x4) &&& 31)) &&& 1) = 1 then if ix x4 60 then (some (x2 + ((md.2.2 6) x4.toNatClampNeg)) : Option Int64).bind fun v5 => l_Md_lengthOfSet_5 n x1 v5 (x4 + 1) md else none else (some (x2 + 0) : Option Int64).bind fun v6 => l_Md_lengthOfSet_5 n x1 v6 (x4 + 1) md))
def f_Md_lengthOfSet (md : MS) (p1 : Int32) : Option (Int64) := (l_Md_lengthOfSet_5 fu p1 0 0 md).bind fun q1 => some q1.1
def rm_Md_lengthOfSet : Room := { frames := 0, cells := 0, slots := 0, locals := 0 }
set_option maxHeartbeats 4000000 in
set_option maxRecDepth 100000 in
theorem m_Md_lengthOfSet (l : Launch) (dC : Nat → ClassId) (dI : Nat → Nat → Nat) (tC : Nat → ClassId) (h_md : Nat) (ad_md : Nat → Nat) (md : MS) (p1 : Int32) (R : Int64) (H : Heap) (hP : va_P (dC, dI) vwCl (w_Md_ h_md ad_md tC md) H) (hf : f_Md_lengthOfSet md p1 = some R) : Met l y_Md_lengthOfSet w_Md_lengthOfSet rm_Md_lengthOfSet (roP (dC, dI) tC H [.ref h_md, .int p1]) (roQ H (some (.long R))) 0 0 (fun _ => False) := by
  refine Met.ofW (cc := c_Md_lengthOfSet) (maxL := 5) (ret := (some (.long))) (by decide) rfl ?_
  intro p e s m args below meth c s₁ B hml hv
  obtain ⟨hav, hH, hK⟩ := hv
  have hx := B.exec
  have hb := B.bytes
  have hr := B.returns
  have hts : ∀ w ∈ gw, w.before args s = true := fun w h => atoms_spec (ws := w_Md_lengthOfSet) B.pre w (List.mem_cons_of_mem _ h)
  have hown : s.vm.findClass RX9 = some m.cls := findClass_of_methodNamed B.named
  have hlocks := B.notSynchronized
  subst hH
  refine q_w (R := rm_Md_lengthOfSet) (fun Q hQ => ?_)
  refine en_w (av := [.ref h_md, .int p1]) hav (Nat.le_of_ble_eq_true rfl) (fun ls hl => ?_)
  have hl : lv_has ls 5 [(0, .ref h_md), (1, .int p1)] := hl
  unfold f_Md_lengthOfSet at hf
  refine lv_lconst (v := 0) hx hb d_Md_lengthOfSet_0 (by decide) ?_
  refine lv_lstore_n (lv' := [(2, .long 0), (0, .ref h_md), (1, .int p1)]) hx hb d_Md_lengthOfSet_1 rfl hl (by decide) rfl (fun ls hl => ?_)
  refine lv_iconst (v := 0) hx hb d_Md_lengthOfSet_2 (by decide) ?_
  refine lv_istore (lv' := [(4, .int 0), (2, .long 0), (0, .ref h_md), (1, .int p1)]) hx hb d_Md_lengthOfSet_3 hl (by decide) rfl (fun ls hl => ?_)
  have lp_5 : ∀ (n : Nat) (x1 : Int32) (x2 : Int64) (x4 : Int32) (Rl : Int64 × Int32), l_Md_lengthOfSet_5 n x1 x2 x4 md = some Rl → ∀ ls : Array Slot, lv_has ls 5 [(4, .int x4), (2, .long x2), (0, .ref h_md), (1, .int x1)] → (∀ ls : Array Slot, lv_has ls 5 [(4, .int Rl.2), (2, .long Rl.1), (0, .ref h_md), (1, .int x1)] → W p l e rm_Md_lengthOfSet s m args below meth c s.heap [] 0 0 Q (F0 m 51 ls [])) → W p l e rm_Md_lengthOfSet s m args below meth c s.heap [] 0 0 Q (F0 m 5 ls []) := by
    intro n
    induction n with
    | zero => intro x1 x2 x4 Rl hf; cases hf
    | succ n ih_5 =>
      intro x1 x2 x4 Rl hf ls hl Kk
      rw [l_Md_lengthOfSet_5] at hf
      refine lv_iload hx hb d_Md_lengthOfSet_5 (lv_at hl 0 rfl) ?_
      refine lv_aload_n hx hb d_Md_lengthOfSet_7 rfl (lv_at hl 2 rfl) ?_
      refine va_get (D := (dC, dI)) (ci := 9) (v := .int (md.1 3)) (C := RX9) (T := TX9) (N := 46) hx hb hts in_X9 hown hK hP 0 rfl rfl 19 (by decide) (hts _ kF_9_175) (fun _ h9 => h9) rfl d_Md_lengthOfSet_8 ?_
      refine lv_icmp_ge (tgt := 51) hx hb d_Md_lengthOfSet_11 (by decide) (fun c2 => ?_) (fun c2 => ?_)
      · have hf := op_t hf c2
        obtain rfl := Option.some.inj hf
        exact Kk _ (lv_sub hl [0, 1, 2, 3] rfl)
      · have hf := op_e hf c2
        refine lv_lload_n hx hb d_Md_lengthOfSet_14 rfl (lv_at hl 1 rfl) ?_
        refine lv_iload_n hx hb d_Md_lengthOfSet_15 rfl (lv_at hl 3 rfl) ?_
        refine lv_aload_n hx hb d_Md_lengthOfSet_16 rfl (lv_at hl 2 rfl) ?_
        refine va_get (D := (dC, dI)) (ci := 9) (v := .int (md.1 3)) (C := RX9) (T := TX9) (N := 46) hx hb hts in_X9 hown hK hP 0 rfl rfl 19 (by decide) (hts _ kF_9_175) (fun _ h9 => h9) rfl d_Md_lengthOfSet_17 ?_
        refine lv_iconst (v := 1) hx hb d_Md_lengthOfSet_20 (by decide) ?_
        refine lv_isub hx hb d_Md_lengthOfSet_21 ?_
        refine lv_iload hx hb d_Md_lengthOfSet_22 (lv_at hl 0 rfl) ?_
        refine lv_isub hx hb d_Md_lengthOfSet_24 ?_
        refine lv_ishr hx hb d_Md_lengthOfSet_25 ?_
        refine lv_iconst (v := 1) hx hb d_Md_lengthOfSet_26 (by decide) ?_
        refine lv_iand hx hb d_Md_lengthOfSet_27 ?_
        refine lv_iconst (v := 1) hx hb d_Md_lengthOfSet_28 (by decide) ?_
        refine lv_icmp_ne (tgt := 42) hx hb d_Md_lengthOfSet_29 (by decide) (fun c3 => ?_) (fun c3 => ?_)
        · have hf := op_e hf c3
          refine lv_lconst (v := 0) hx hb d_Md_lengthOfSet_42 (by decide) ?_
          refine lv_ladd hx hb d_Md_lengthOfSet_43 ?_
          obtain ⟨v6, hv6, hf⟩ := op_b hf
          refine rw_l (y := v6) (Option.some.inj hv6) ?_
          refine lv_lstore_n (lv' := [(2, .long v6), (4, .int x4), (0, .ref h_md), (1, .int x1)]) hx hb d_Md_lengthOfSet_44 rfl hl (by decide) rfl (fun ls hl => ?_)
          refine lv_iinc (v := x4 + 1) (lv' := [(4, .int (x4 + 1)), (2, .long v6), (0, .ref h_md), (1, .int x1)]) hx hb d_Md_lengthOfSet_45 hl (k := 1) rfl rfl (by decide) rfl (fun ls hl => ?_)
          refine lv_goto (tgt := 5) hx hb d_Md_lengthOfSet_48 (by decide) ?_
          exact ih_5 x1 v6 (x4 + 1) Rl hf _ (lv_sub hl [0, 1, 2, 3] rfl) Kk
        · have hf := op_t hf c3
          refine lv_aload_n hx hb d_Md_lengthOfSet_32 rfl (lv_at hl 2 rfl) ?_
          refine va_get (D := (dC, dI)) (ci := 9) (v := .ref (ad_md 17)) (C := RX9) (T := TX9) (N := 46) hx hb hts in_X9 hown hK hP 0 rfl rfl 21 (by decide) (hts _ kF_9_63) (fun _ h9 => h9) rfl d_Md_lengthOfSet_33 ?_
          refine lv_iload hx hb d_Md_lengthOfSet_36 (lv_at hl 0 rfl) ?_
          obtain ⟨hi4, hf⟩ := op_if hf
          refine va_lald (f := md.2.2 6) hx hb hK hP 18 1 rfl rfl (ix_in hi4) d_Md_lengthOfSet_38 ?_
          refine lv_goto (tgt := 43) hx hb d_Md_lengthOfSet_39 (by decide) ?_
          refine lv_ladd hx hb d_Md_lengthOfSet_43 ?_
          obtain ⟨v5, hv5, hf⟩ := op_b hf
          refine rw_l (y := v5) (Option.some.inj hv5) ?_
          refine lv_lstore_n (lv' := [(2, .long v5), (4, .int x4), (0, .ref h_md), (1, .int x1)]) hx hb d_Md_lengthOfSet_44 rfl hl (by decide) rfl (fun ls hl => ?_)
          refine lv_iinc (v := x4 + 1) (lv' := [(4, .int (x4 + 1)), (2, .long v5), (0, .ref h_md), (1, .int x1)]) hx hb d_Md_lengthOfSet_45 hl (k := 1) rfl rfl (by decide) rfl (fun ls hl => ?_)
          refine lv_goto (tgt := 5) hx hb d_Md_lengthOfSet_48 (by decide) ?_
          exact ih_5 x1 v5 (x4 + 1) Rl hf _ (lv_sub hl [0, 1, 2, 3] rfl) Kk
  obtain ⟨q1, hq1, hf⟩ := op_b hf
  refine lp_5 fu p1 0 0 q1 hq1 _ (lv_sub hl [0, 1, 2, 3] rfl) ?_
  intro ls hl
  refine lv_lload_n hx hb d_Md_lengthOfSet_51 rfl (lv_at hl 1 rfl) ?_
  obtain rfl := Option.some.inj hf
  subst hQ
  exact W.lret (v := q1.1) hx hb hr (fun t ht hW => ⟨rfl, ht⟩) (fun q h => by cases h) d_Md_lengthOfSet_52
def l_Md_firstOf_7 : Nat → Int32 → Int32 → MS → Option (Int32)
  | 0, _, _, _ => none
  | n + 1, x1, x2, md => (if (x1 &&& x2) = 0 then (some (x2 >>> (1 &&& 31)) : Option Int32).bind fun v4 => l_Md_firstOf_7 n x1 v4 md else some (x2))
def f_Md_firstOf (md : MS) (p1 : Int32) : Option (Int32) := (some (1 <<< ((md.1 3) &&& 31)) : Option Int32).bind fun v1 => (l_Md_firstOf_7 fu p1 v1 md).bind fun q2 => some q2
def rm_Md_firstOf : Room := { frames := 0, cells := 0, slots := 0, locals := 0 }
set_option maxHeartbeats 4000000 in
set_option maxRecDepth 100000 in
theorem m_Md_firstOf (l : Launch) (dC : Nat → ClassId) (dI : Nat → Nat → Nat) (tC : Nat → ClassId) (h_md : Nat) (ad_md : Nat → Nat) (md : MS) (p1 : Int32) (R : Int32) (H : Heap) (hP : va_P (dC, dI) vwCl (w_Md_ h_md ad_md tC md) H) (hf : f_Md_firstOf md p1 = some R) : Met l y_Md_firstOf w_Md_firstOf rm_Md_firstOf (roP (dC, dI) tC H [.ref h_md, .int p1]) (roQ H (some (.int R))) 0 0 (fun _ => False) := by
  refine Met.ofW (cc := c_Md_firstOf) (maxL := 3) (ret := (some (.int))) (by decide) rfl ?_
  intro p e s m args below meth c s₁ B hml hv
  obtain ⟨hav, hH, hK⟩ := hv
  have hx := B.exec
  have hb := B.bytes
  have hr := B.returns
  have hts : ∀ w ∈ gw, w.before args s = true := fun w h => atoms_spec (ws := w_Md_firstOf) B.pre w (List.mem_cons_of_mem _ h)
  have hown : s.vm.findClass RX9 = some m.cls := findClass_of_methodNamed B.named
  have hlocks := B.notSynchronized
  subst hH
  refine q_w (R := rm_Md_firstOf) (fun Q hQ => ?_)
  refine en_w (av := [.ref h_md, .int p1]) hav (Nat.le_of_ble_eq_true rfl) (fun ls hl => ?_)
  have hl : lv_has ls 3 [(0, .ref h_md), (1, .int p1)] := hl
  unfold f_Md_firstOf at hf
  refine lv_iconst (v := 1) hx hb d_Md_firstOf_0 (by decide) ?_
  refine lv_aload_n hx hb d_Md_firstOf_1 rfl (lv_at hl 0 rfl) ?_
  refine va_get (D := (dC, dI)) (ci := 9) (v := .int (md.1 3)) (C := RX9) (T := TX9) (N := 46) hx hb hts in_X9 hown hK hP 0 rfl rfl 19 (by decide) (hts _ kF_9_175) (fun _ h9 => h9) rfl d_Md_firstOf_2 ?_
  refine lv_ishl hx hb d_Md_firstOf_5 ?_
  obtain ⟨v1, hv1, hf⟩ := op_b hf
  refine rw_i (y := v1) (Option.some.inj hv1) ?_
  refine lv_istore_n (lv' := [(2, .int v1), (0, .ref h_md), (1, .int p1)]) hx hb d_Md_firstOf_6 rfl hl (by decide) rfl (fun ls hl => ?_)
  have lp_7 : ∀ (n : Nat) (x1 : Int32) (x2 : Int32) (Rl : Int32), l_Md_firstOf_7 n x1 x2 md = some Rl → ∀ ls : Array Slot, lv_has ls 3 [(2, .int x2), (0, .ref h_md), (1, .int x1)] → (∀ ls : Array Slot, lv_has ls 3 [(2, .int Rl), (0, .ref h_md), (1, .int x1)] → W p l e rm_Md_firstOf s m args below meth c s.heap [] 0 0 Q (F0 m 20 ls [])) → W p l e rm_Md_firstOf s m args below meth c s.heap [] 0 0 Q (F0 m 7 ls []) := by
    intro n
    induction n with
    | zero => intro x1 x2 Rl hf; cases hf
    | succ n ih_7 =>
      intro x1 x2 Rl hf ls hl Kk
      rw [l_Md_firstOf_7] at hf
      refine lv_iload_n hx hb d_Md_firstOf_7 rfl (lv_at hl 2 rfl) ?_
      refine lv_iload_n hx hb d_Md_firstOf_8 rfl (lv_at hl 0 rfl) ?_
      refine lv_iand hx hb d_Md_firstOf_9 ?_
      refine lv_if_ne (tgt := 20) hx hb d_Md_firstOf_10 (by decide) (fun c3 => ?_) (fun c3 => ?_)
      · have hf := op_e hf c3
        obtain rfl := Option.some.inj hf
        exact Kk _ (lv_sub hl [0, 1, 2] rfl)
      · have hf := op_t hf c3
        refine lv_iload_n hx hb d_Md_firstOf_13 rfl (lv_at hl 0 rfl) ?_
        refine lv_iconst (v := 1) hx hb d_Md_firstOf_14 (by decide) ?_
        refine lv_ishr hx hb d_Md_firstOf_15 ?_
        obtain ⟨v4, hv4, hf⟩ := op_b hf
        refine rw_i (y := v4) (Option.some.inj hv4) ?_
        refine lv_istore_n (lv' := [(2, .int v4), (0, .ref h_md), (1, .int x1)]) hx hb d_Md_firstOf_16 rfl hl (by decide) rfl (fun ls hl => ?_)
        refine lv_goto (tgt := 7) hx hb d_Md_firstOf_17 (by decide) ?_
        exact ih_7 x1 v4 Rl hf _ (lv_sub hl [0, 1, 2] rfl) Kk
  obtain ⟨q2, hq2, hf⟩ := op_b hf
  refine lp_7 fu p1 v1 q2 hq2 _ (lv_sub hl [0, 1, 2] rfl) ?_
  intro ls hl
  refine lv_iload_n hx hb d_Md_firstOf_20 rfl (lv_at hl 0 rfl) ?_
  obtain rfl := Option.some.inj hf
  subst hQ
  exact W.iret (v := q2) hx hb hr (fun t ht hW => ⟨rfl, ht⟩) (fun q h => by cases h) d_Md_firstOf_21
