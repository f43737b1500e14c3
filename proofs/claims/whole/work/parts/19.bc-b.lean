def f_Bc_unit (nl : Nat) (nT : Nat → Nat) (LS : Nat → MS) (TS : Nat → MS) (FP : Nat → Bool) (FS : Nat → MS) (bc : MS) (sg : MS) (tr : MS) (tu : MS) (ff : MS) (pl : MS) (lw : MS) (p1 : Int32) : Option (Int32 × MS × MS × MS × MS × MS × MS × MS) := (f_Sg_collect sg p1).bind fun q1 => if q1.1 = 0 ∨ q1.1 = 1 then some (q1.1, bc, q1.2, tr, tu, ff, pl, lw) else none
def rm_Bc_unit : Room := { frames := 1, cells := 0, slots := 0, locals := 21 }
set_option maxHeartbeats 4000000 in
set_option maxRecDepth 100000 in
theorem m_Bc_unit (l : Launch) (dC : Nat → ClassId) (dI : Nat → Nat → Nat) (tC : Nat → ClassId) (TL : va_W) (nl : Nat) (hL : Nat → Nat) (adL aT : Nat → Nat → Nat) (nT : Nat → Nat) (LS TS : Nat → MS) (FP : Nat → Bool) (hF : Nat → Nat) (adF : Nat → Nat → Nat) (FS : Nat → MS) (rf : Nat → Nat → Option Nat) (h_bc : Nat) (ad_bc : Nat → Nat) (bc : MS) (ad_sg : Nat → Nat) (sg : MS) (ad_tr : Nat → Nat) (tr : MS) (ad_tu : Nat → Nat) (tu : MS) (ad_ff : Nat → Nat) (ff : MS) (ad_pl : Nat → Nat) (pl : MS) (ad_lw : Nat → Nat) (lw : MS) (p1 : Int32) (R : Int32 × MS × MS × MS × MS × MS × MS × MS) (hFM : FM tC TL nl hL adL aT nT LS TS FP hF adF FS rf) (hf : f_Bc_unit nl nT LS TS FP FS bc sg tr tu ff pl lw p1 = some R) (sz : Nat) : Met l y_Bc_unit w_Bc_unit rm_Bc_unit (wrP (dC, dI) tC (w_Bc_ h_bc ad_bc tC rf bc ++ (w_Sg_ (ad_bc 100) ad_sg tC sg ++ (w_Tr_ (ad_bc 104) ad_tr tC tr ++ (w_Tr_ (ad_bc 105) ad_tu tC tu ++ (w_Ff_ (ad_bc 103) ad_ff tC ff ++ (w_Pl_ (ad_bc 101) ad_pl tC pl ++ (w_Lw_ (ad_bc 102) ad_lw tC lw ++ TL))))))) sz [.ref h_bc, .int p1]) (wrQ (dC, dI) (w_Bc_ h_bc ad_bc tC rf bc ++ (w_Sg_ (ad_bc 100) ad_sg tC sg ++ (w_Tr_ (ad_bc 104) ad_tr tC tr ++ (w_Tr_ (ad_bc 105) ad_tu tC tu ++ (w_Ff_ (ad_bc 103) ad_ff tC ff ++ (w_Pl_ (ad_bc 101) ad_pl tC pl ++ (w_Lw_ (ad_bc 102) ad_lw tC lw ++ TL))))))) sz (fun r w => r = (some (.int R.1)) ∧ w = (w_Bc_ h_bc ad_bc tC rf R.2.1 ++ (w_Sg_ (ad_bc 100) ad_sg tC R.2.2.1 ++ (w_Tr_ (ad_bc 104) ad_tr tC R.2.2.2.1 ++ (w_Tr_ (ad_bc 105) ad_tu tC R.2.2.2.2.1 ++ (w_Ff_ (ad_bc 103) ad_ff tC R.2.2.2.2.2.1 ++ (w_Pl_ (ad_bc 101) ad_pl tC R.2.2.2.2.2.2.1 ++ (w_Lw_ (ad_bc 102) ad_lw tC R.2.2.2.2.2.2.2 ++ TL))))))))) 0 0 (va_A (w_Bc_ h_bc ad_bc tC rf bc ++ (w_Sg_ (ad_bc 100) ad_sg tC sg ++ (w_Tr_ (ad_bc 104) ad_tr tC tr ++ (w_Tr_ (ad_bc 105) ad_tu tC tu ++ (w_Ff_ (ad_bc 103) ad_ff tC ff ++ (w_Pl_ (ad_bc 101) ad_pl tC pl ++ (w_Lw_ (ad_bc 102) ad_lw tC lw ++ TL))))))) sz) := by
  refine Met.ofW (cc := c_Bc_unit) (maxL := 2) (ret := (some (.boolean))) (by decide) rfl ?_
  intro p e s m args below meth c s₁ B hml hv
  obtain ⟨hav, hsz, hP, hK, hD0⟩ := hv
  have hx := B.exec
  have hb := B.bytes
  have hr := B.returns
  have hts : ∀ w ∈ gw, w.before args s = true := fun w h => atoms_spec (ws := w_Bc_unit) B.pre w (List.mem_cons_of_mem _ h)
  have hown : s.vm.findClass RX8 = some m.cls := findClass_of_methodNamed B.named
  have hlocks := B.notSynchronized
  subst hsz
  have hD := hD0.self (sz := s.heap.size)
  obtain ⟨A, hAe⟩ : ∃ z, z = va_A (w_Bc_ h_bc ad_bc tC rf bc ++ (w_Sg_ (ad_bc 100) ad_sg tC sg ++ (w_Tr_ (ad_bc 104) ad_tr tC tr ++ (w_Tr_ (ad_bc 105) ad_tu tC tu ++ (w_Ff_ (ad_bc 103) ad_ff tC ff ++ (w_Pl_ (ad_bc 101) ad_pl tC pl ++ (w_Lw_ (ad_bc 102) ad_lw tC lw ++ TL))))))) s.heap.size := ⟨_, rfl⟩
  rw [← hAe] at hD
  have hA : ∀ q : Nat, s.heap.size ≤ q → A q := fun q h => by rw [hAe]; exact Or.inr h
  have hS : va_S A s.heap s.heap [] := va_S.rf
  refine q_w (R := rm_Bc_unit) (fun Q hQ => ?_)
  refine en_w (av := [.ref h_bc, .int p1]) hav (Nat.le_of_ble_eq_true rfl) (fun ls hl => ?_)
  have hl : lv_has ls 2 [(0, .ref h_bc), (1, .int p1)] := hl
  unfold f_Bc_unit at hf
  refine lv_aload_n hx hb d_Bc_unit_0 rfl (lv_at hl 0 rfl) ?_
  refine va_get (D := (dC, dI)) (ci := 8) (v := .ref (ad_bc 100)) (C := RX8) (T := TX8) (N := 12) hx hb hts in_X8 hown hK hP 0 rfl rfl 0 (by decide) (hts _ kF_8_12) (fun _ h9 => h9) rfl d_Bc_unit_1 ?_
  refine lv_iload_n hx hb d_Bc_unit_4 rfl (lv_at hl 1 rfl) ?_
  obtain ⟨q1, hq1, hf⟩ := op_b hf
  have hPx := cv_P (ws' := (w_Bc_ h_bc ad_bc tC rf bc) ++ ((w_Sg_ (ad_bc 100) ad_sg tC sg) ++ (w_Tr_ (ad_bc 104) ad_tr tC tr ++ (w_Tr_ (ad_bc 105) ad_tu tC tu ++ (w_Ff_ (ad_bc 103) ad_ff tC ff ++ (w_Pl_ (ad_bc 101) ad_pl tC pl ++ (w_Lw_ (ad_bc 102) ad_lw tC lw ++ TL))))))) hP (by simp only [List.append_assoc, List.nil_append])
  have hDx := cv_D (ws' := (w_Bc_ h_bc ad_bc tC rf bc) ++ ((w_Sg_ (ad_bc 100) ad_sg tC sg) ++ (w_Tr_ (ad_bc 104) ad_tr tC tr ++ (w_Tr_ (ad_bc 105) ad_tu tC tu ++ (w_Ff_ (ad_bc 103) ad_ff tC ff ++ (w_Pl_ (ad_bc 101) ad_pl tC pl ++ (w_Lw_ (ad_bc 102) ad_lw tC lw ++ TL))))))) hD (by simp only [List.append_assoc, List.nil_append])
  obtain ⟨hPc, hDc, hFc⟩ := bk_cut0 hPx hDx hS hA
  refine wr_go (va_runV (As := [.int p1]) (rest := []) ⟨hx, hb, hml, hown, hts⟩ (m_Sg_collect l dC dI tC (ad_bc 100) ad_sg sg p1 q1 hq1 _) (cwV 1 hts (gd_V kM_8_76 kI_Sg_collect kV_Sg_collect kZ_6 kC_Sg_collect) rfl rfl rfl (by decide +kernel) ⟨(Nat.le_of_ble_eq_true rfl), (Nat.le_of_ble_eq_true rfl)⟩) ⟨wr_blind, va_recv hK hP (ci := 6) (q0 := 5) rfl rfl, wr_pre hK hPc hDc⟩ rfl rfl hl.1 rfl (lv_room (Nat.le_of_ble_eq_true rfl)) d_Bc_unit_5 ⟨(Nat.le_of_ble_eq_true rfl), (Nat.le_of_ble_eq_true rfl)⟩) hS hFc (fun r w1 H1 locs hw hP1 hD1 hk1 hS => ?_)
  obtain ⟨rfl, rfl⟩ := hw
  obtain ⟨hP, hD⟩ := bk_join0 (B1 := (w_Sg_ (ad_bc 100) ad_sg tC q1.2)) hPx hDx hk1 hP1 rfl
  clear hP1 hD1 hk1 hPc hDc hFc hPx hDx
  have hP := cv_P (ws' := (w_Bc_ h_bc ad_bc tC rf bc ++ (w_Sg_ (ad_bc 100) ad_sg tC q1.2 ++ (w_Tr_ (ad_bc 104) ad_tr tC tr ++ (w_Tr_ (ad_bc 105) ad_tu tC tu ++ (w_Ff_ (ad_bc 103) ad_ff tC ff ++ (w_Pl_ (ad_bc 101) ad_pl tC pl ++ (w_Lw_ (ad_bc 102) ad_lw tC lw ++ TL)))))))) hP (by simp only [List.append_assoc, List.nil_append])
  have hD := cv_D (ws' := (w_Bc_ h_bc ad_bc tC rf bc ++ (w_Sg_ (ad_bc 100) ad_sg tC q1.2 ++ (w_Tr_ (ad_bc 104) ad_tr tC tr ++ (w_Tr_ (ad_bc 105) ad_tu tC tu ++ (w_Ff_ (ad_bc 103) ad_ff tC ff ++ (w_Pl_ (ad_bc 101) ad_pl tC pl ++ (w_Lw_ (ad_bc 102) ad_lw tC lw ++ TL)))))))) hD (by simp only [List.append_assoc, List.nil_append])
  refine W.eq (g2 := F0 m 8 ls [.int q1.1]) rfl ?_
  obtain ⟨hn2, hf⟩ := op_if hf
  obtain rfl := Option.some.inj hf
  subst hQ
  subst hAe
  exact W.zret (v := q1.1) (ty := .boolean) hx hb hr (nb_z hn2) (fun t ht hW => ⟨⟨_, _, rfl, ⟨rfl, rfl⟩, by rw [ht]; exact hP, hD⟩, hS.F ht⟩) hS.2.2 d_Bc_unit_8
def f_Bc_rule (nl : Nat) (nT : Nat → Nat) (LS : Nat → MS) (TS : Nat → MS) (FP : Nat → Bool) (FS : Nat → MS) (bc : MS) (sg : MS) (tr : MS) (tu : MS) (ff : MS) (pl : MS) (lw : MS) (p1 : Int32) (p2 : Int64) : Option (Int32 × MS × MS × MS × MS × MS × MS × MS) := (f_Bc_isDiameter p1).bind fun q1 => (if q1 = 0 then some (0, bc, sg, tr, tu, ff, pl, lw) else (if p2 < 0 then some (0, bc, sg, tr, tu, ff, pl, lw) else (if p2 ≤ 500 then if ix (p1 - 4) 37 then (some (sA bc 0 (upd (bc.2.1 0) (p1 - 4).toNatClampNeg p2.toInt32))).bind fun bc6 => (f_Pl_clear pl).bind fun q7 => some (1, bc6, sg, tr, tu, ff, q7.2, lw) else none else some (0, bc, sg, tr, tu, ff, pl, lw))))
def rm_Bc_rule : Room := { frames := 1, cells := 0, slots := 0, locals := 20 }
set_option maxHeartbeats 4000000 in
set_option maxRecDepth 100000 in
theorem m_Bc_rule (l : Launch) (dC : Nat → ClassId) (dI : Nat → Nat → Nat) (tC : Nat → ClassId) (TL : va_W) (nl : Nat) (hL : Nat → Nat) (adL aT : Nat → Nat → Nat) (nT : Nat → Nat) (LS TS : Nat → MS) (FP : Nat → Bool) (hF : Nat → Nat) (adF : Nat → Nat → Nat) (FS : Nat → MS) (rf : Nat → Nat → Option Nat) (h_bc : Nat) (ad_bc : Nat → Nat) (bc : MS) (ad_sg : Nat → Nat) (sg : MS) (ad_tr : Nat → Nat) (tr : MS) (ad_tu : Nat → Nat) (tu : MS) (ad_ff : Nat → Nat) (ff : MS) (ad_pl : Nat → Nat) (pl : MS) (ad_lw : Nat → Nat) (lw : MS) (p1 : Int32) (p2 : Int64) (R : Int32 × MS × MS × MS × MS × MS × MS × MS) (hFM : FM tC TL nl hL adL aT nT LS TS FP hF adF FS rf) (hf : f_Bc_rule nl nT LS TS FP FS bc sg tr tu ff pl lw p1 p2 = some R) (sz : Nat) : Met l y_Bc_rule w_Bc_rule rm_Bc_rule (wrP (dC, dI) tC (w_Bc_ h_bc ad_bc tC rf bc ++ (w_Sg_ (ad_bc 100) ad_sg tC sg ++ (w_Tr_ (ad_bc 104) ad_tr tC tr ++ (w_Tr_ (ad_bc 105) ad_tu tC tu ++ (w_Ff_ (ad_bc 103) ad_ff tC ff ++ (w_Pl_ (ad_bc 101) ad_pl tC pl ++ (w_Lw_ (ad_bc 102) ad_lw tC lw ++ TL))))))) sz [.ref h_bc, .int p1, .long p2]) (wrQ (dC, dI) (w_Bc_ h_bc ad_bc tC rf bc ++ (w_Sg_ (ad_bc 100) ad_sg tC sg ++ (w_Tr_ (ad_bc 104) ad_tr tC tr ++ (w_Tr_ (ad_bc 105) ad_tu tC tu ++ (w_Ff_ (ad_bc 103) ad_ff tC ff ++ (w_Pl_ (ad_bc 101) ad_pl tC pl ++ (w_Lw_ (ad_bc 102) ad_lw tC lw ++ TL))))))) sz (fun r w => r = (some (.int R.1)) ∧ w = (w_Bc_ h_bc ad_bc tC rf R.2.1 ++ (w_Sg_ (ad_bc 100) ad_sg tC R.2.2.1 ++ (w_Tr_ (ad_bc 104) ad_tr tC R.2.2.2.1 ++ (w_Tr_ (ad_bc 105) ad_tu tC R.2.2.2.2.1 ++ (w_Ff_ (ad_bc 103) ad_ff tC R.2.2.2.2.2.1 ++ (w_Pl_ (ad_bc 101) ad_pl tC R.2.2.2.2.2.2.1 ++ (w_Lw_ (ad_bc 102) ad_lw tC R.2.2.2.2.2.2.2 ++ TL))))))))) 0 0 (va_A (w_Bc_ h_bc ad_bc tC rf bc ++ (w_Sg_ (ad_bc 100) ad_sg tC sg ++ (w_Tr_ (ad_bc 104) ad_tr tC tr ++ (w_Tr_ (ad_bc 105) ad_tu tC tu ++ (w_Ff_ (ad_bc 103) ad_ff tC ff ++ (w_Pl_ (ad_bc 101) ad_pl tC pl ++ (w_Lw_ (ad_bc 102) ad_lw tC lw ++ TL))))))) sz) := by
  refine Met.ofW (cc := c_Bc_rule) (maxL := 4) (ret := (some (.boolean))) (by decide) rfl ?_
  intro p e s m args below meth c s₁ B hml hv
  obtain ⟨hav, hsz, hP, hK, hD0⟩ := hv
  have hx := B.exec
  have hb := B.bytes
  have hr := B.returns
  have hts : ∀ w ∈ gw, w.before args s = true := fun w h => atoms_spec (ws := w_Bc_rule) B.pre w (List.mem_cons_of_mem _ h)
  have hown : s.vm.findClass RX8 = some m.cls := findClass_of_methodNamed B.named
  have hlocks := B.notSynchronized
  subst hsz
  have hD := hD0.self (sz := s.heap.size)
  obtain ⟨A, hAe⟩ : ∃ z, z = va_A (w_Bc_ h_bc ad_bc tC rf bc ++ (w_Sg_ (ad_bc 100) ad_sg tC sg ++ (w_Tr_ (ad_bc 104) ad_tr tC tr ++ (w_Tr_ (ad_bc 105) ad_tu tC tu ++ (w_Ff_ (ad_bc 103) ad_ff tC ff ++ (w_Pl_ (ad_bc 101) ad_pl tC pl ++ (w_Lw_ (ad_bc 102) ad_lw tC lw ++ TL))))))) s.heap.size := ⟨_, rfl⟩
  rw [← hAe] at hD
  have hA : ∀ q : Nat, s.heap.size ≤ q → A q := fun q h => by rw [hAe]; exact Or.inr h
  have hS : va_S A s.heap s.heap [] := va_S.rf
  refine q_w (R := rm_Bc_rule) (fun Q hQ => ?_)
  refine en_w (av := [.ref h_bc, .int p1, .long p2]) hav (Nat.le_of_ble_eq_true rfl) (fun ls hl => ?_)
  have hl : lv_has ls 4 [(0, .ref h_bc), (1, .int p1), (2, .long p2)] := hl
  unfold f_Bc_rule at hf
  refine lv_iload_n hx hb d_Bc_rule_0 rfl (lv_at hl 1 rfl) ?_
  obtain ⟨q1, hq1, hf⟩ := op_b hf
  refine ro_go rfl (va_runS (As := [.int p1]) (rest := []) ⟨hx, hb, hml, hown, hts⟩ (m_Bc_isDiameter l dC dI tC p1 q1 _  hq1) (cwS 1 hts (gd_S kM_8_91 kS_Bc_isDiameter kZ_8 kC_Bc_isDiameter) rfl rfl rfl (by decide +kernel) ⟨(Nat.le_of_ble_eq_true rfl), (Nat.le_of_ble_eq_true rfl)⟩) ⟨ro_blind, ro_pre hK⟩ rfl rfl hl.1 rfl (lv_room (Nat.le_of_ble_eq_true rfl)) d_Bc_rule_1 ⟨(Nat.le_of_ble_eq_true rfl), (Nat.le_of_ble_eq_true rfl)⟩) ?_
  refine W.eq (g2 := F0 m 4 ls [.int q1]) rfl ?_
  refine lv_if_eq (tgt := 21) hx hb d_Bc_rule_4 (by decide) (fun c2 => ?_) (fun c2 => ?_)
  · have hf := op_t hf c2
    refine lv_iconst (v := 0) hx hb d_Bc_rule_21 (by decide) ?_
    obtain rfl := Option.some.inj hf
    subst hQ
    subst hAe
    exact W.zret (v := 0) (ty := .boolean) hx hb hr (by decide) (fun t ht hW => ⟨⟨_, _, rfl, ⟨rfl, rfl⟩, by rw [ht]; exact hP, hD⟩, hS.F ht⟩) hS.2.2 d_Bc_rule_22
  · have hf := op_e hf c2
    refine lv_lload_n hx hb d_Bc_rule_7 rfl (lv_at hl 2 rfl) ?_
    refine lv_lconst (v := 0) hx hb d_Bc_rule_8 (by decide) ?_
    refine W.lcmp hx hb d_Bc_rule_9 ?_
    refine lv_if_lt (tgt := 21) hx hb d_Bc_rule_10 (by decide) (fun c3 => ?_) (fun c3 => ?_)
    · have c3 := (lg_cmp_lt _ _).mp c3
      have hf := op_t hf c3
      refine lv_iconst (v := 0) hx hb d_Bc_rule_21 (by decide) ?_
      obtain rfl := Option.some.inj hf
      subst hQ
      subst hAe
      exact W.zret (v := 0) (ty := .boolean) hx hb hr (by decide) (fun t ht hW => ⟨⟨_, _, rfl, ⟨rfl, rfl⟩, by rw [ht]; exact hP, hD⟩, hS.F ht⟩) hS.2.2 d_Bc_rule_22
    · have c3 := fun h9 => c3 ((lg_cmp_lt _ _).mpr h9)
      have hf := op_e hf c3
      refine lv_lload_n hx hb d_Bc_rule_13 rfl (lv_at hl 2 rfl) ?_
      refine lv_ldc2 (v := 500) hx hb hown (hts _ kK_8_94) d_Bc_rule_14 ?_
      refine W.lcmp hx hb d_Bc_rule_17 ?_
      refine lv_if_le (tgt := 23) hx hb d_Bc_rule_18 (by decide) (fun c4 => ?_) (fun c4 => ?_)
      · have c4 := (lg_cmp_le _ _).mp c4
        have hf := op_t hf c4
        refine lv_aload_n hx hb d_Bc_rule_23 rfl (lv_at hl 0 rfl) ?_
        refine va_get (D := (dC, dI)) (ci := 8) (v := .ref (ad_bc 2)) (C := RX8) (T := TX8) (N := 12) hx hb hts in_X8 hown hK hP 0 rfl rfl 3 (by decide) (hts _ kF_8_28) (fun _ h9 => h9) rfl d_Bc_rule_24 ?_
        refine lv_iload_n hx hb d_Bc_rule_27 rfl (lv_at hl 1 rfl) ?_
        refine lv_iconst (v := 4) hx hb d_Bc_rule_28 (by decide) ?_
        refine lv_isub hx hb d_Bc_rule_29 ?_
        refine lv_lload_n hx hb d_Bc_rule_30 rfl (lv_at hl 2 rfl) ?_
        refine lv_l2i (v := p2.toInt32) hx hb d_Bc_rule_31 rfl ?_
        obtain ⟨hi5, hf⟩ := op_if hf
        refine va_iast (f := bc.2.1 0) hx hb hK hP hD hS 3 0 rfl rfl (ix_in hi5) d_Bc_rule_32 (fun H locs hP hD hS => ?_)
        rw [sl_Bc_3, wu_Bc_a0] at hP hD
        obtain ⟨bc6, hbc6, hf⟩ := op_b hf
        have hP : va_P (dC, dI) vwCl (w_Bc_ h_bc ad_bc tC rf bc6 ++ (w_Sg_ (ad_bc 100) ad_sg tC sg ++ (w_Tr_ (ad_bc 104) ad_tr tC tr ++ (w_Tr_ (ad_bc 105) ad_tu tC tu ++ (w_Ff_ (ad_bc 103) ad_ff tC ff ++ (w_Pl_ (ad_bc 101) ad_pl tC pl ++ (w_Lw_ (ad_bc 102) ad_lw tC lw ++ TL))))))) H := by rw [← Option.some.inj hbc6]; exact hP
        have hD : va_D A (w_Bc_ h_bc ad_bc tC rf bc6 ++ (w_Sg_ (ad_bc 100) ad_sg tC sg ++ (w_Tr_ (ad_bc 104) ad_tr tC tr ++ (w_Tr_ (ad_bc 105) ad_tu tC tu ++ (w_Ff_ (ad_bc 103) ad_ff tC ff ++ (w_Pl_ (ad_bc 101) ad_pl tC pl ++ (w_Lw_ (ad_bc 102) ad_lw tC lw ++ TL))))))) := by rw [← Option.some.inj hbc6]; exact hD
        refine lv_aload_n hx hb d_Bc_rule_33 rfl (lv_at hl 0 rfl) ?_
        refine va_get (D := (dC, dI)) (ci := 8) (v := .ref (ad_bc 101)) (C := RX8) (T := TX8) (N := 12) hx hb hts in_X8 hown hK hP 0 rfl rfl 5 (by decide) (hts _ kF_8_41) (fun _ h9 => h9) rfl d_Bc_rule_34 ?_
        obtain ⟨q7, hq7, hf⟩ := op_b hf
        have hPx := cv_P (ws' := (w_Bc_ h_bc ad_bc tC rf bc6 ++ (w_Sg_ (ad_bc 100) ad_sg tC sg ++ (w_Tr_ (ad_bc 104) ad_tr tC tr ++ (w_Tr_ (ad_bc 105) ad_tu tC tu ++ w_Ff_ (ad_bc 103) ad_ff tC ff)))) ++ ((w_Pl_ (ad_bc 101) ad_pl tC pl) ++ (w_Lw_ (ad_bc 102) ad_lw tC lw ++ TL))) hP (by simp only [List.append_assoc, List.nil_append])
        have hDx := cv_D (ws' := (w_Bc_ h_bc ad_bc tC rf bc6 ++ (w_Sg_ (ad_bc 100) ad_sg tC sg ++ (w_Tr_ (ad_bc 104) ad_tr tC tr ++ (w_Tr_ (ad_bc 105) ad_tu tC tu ++ w_Ff_ (ad_bc 103) ad_ff tC ff)))) ++ ((w_Pl_ (ad_bc 101) ad_pl tC pl) ++ (w_Lw_ (ad_bc 102) ad_lw tC lw ++ TL))) hD (by simp only [List.append_assoc, List.nil_append])
        obtain ⟨hPc, hDc, hFc⟩ := bk_cut0 hPx hDx hS hA
        refine wr_go (va_runV (As := []) (rest := []) ⟨hx, hb, hml, hown, hts⟩ (m_Pl_clear l dC dI tC (ad_bc 101) ad_pl pl q7 hq7 _) (cwV 0 hts (gd_V kM_8_96 kI_Pl_clear kV_Pl_clear kZ_3 kC_Pl_clear) rfl rfl rfl (by decide +kernel) ⟨(Nat.le_of_ble_eq_true rfl), (Nat.le_of_ble_eq_true rfl)⟩) ⟨wr_blind, va_recv hK hP (ci := 3) (q0 := 21) rfl rfl, wr_pre hK hPc hDc⟩ rfl rfl hl.1 rfl (lv_room (Nat.le_of_ble_eq_true rfl)) d_Bc_rule_37 ⟨(Nat.le_of_ble_eq_true rfl), (Nat.le_of_ble_eq_true rfl)⟩) hS hFc (fun r w1 H1 locs hw hP1 hD1 hk1 hS => ?_)
        obtain ⟨rfl, rfl⟩ := hw
        obtain ⟨hP, hD⟩ := bk_join0 (B1 := (w_Pl_ (ad_bc 101) ad_pl tC q7.2)) hPx hDx hk1 hP1 rfl
        clear hP1 hD1 hk1 hPc hDc hFc hPx hDx
        have hP := cv_P (ws' := (w_Bc_ h_bc ad_bc tC rf bc6 ++ (w_Sg_ (ad_bc 100) ad_sg tC sg ++ (w_Tr_ (ad_bc 104) ad_tr tC tr ++ (w_Tr_ (ad_bc 105) ad_tu tC tu ++ (w_Ff_ (ad_bc 103) ad_ff tC ff ++ (w_Pl_ (ad_bc 101) ad_pl tC q7.2 ++ (w_Lw_ (ad_bc 102) ad_lw tC lw ++ TL)))))))) hP (by simp only [List.append_assoc, List.nil_append])
        have hD := cv_D (ws' := (w_Bc_ h_bc ad_bc tC rf bc6 ++ (w_Sg_ (ad_bc 100) ad_sg tC sg ++ (w_Tr_ (ad_bc 104) ad_tr tC tr ++ (w_Tr_ (ad_bc 105) ad_tu tC tu ++ (w_Ff_ (ad_bc 103) ad_ff tC ff ++ (w_Pl_ (ad_bc 101) ad_pl tC q7.2 ++ (w_Lw_ (ad_bc 102) ad_lw tC lw ++ TL)))))))) hD (by simp only [List.append_assoc, List.nil_append])
        refine W.eq (g2 := F0 m 40 ls []) rfl ?_
        refine lv_iconst (v := 1) hx hb d_Bc_rule_40 (by decide) ?_
        obtain rfl := Option.some.inj hf
        subst hQ
        subst hAe
        exact W.zret (v := 1) (ty := .boolean) hx hb hr (by decide) (fun t ht hW => ⟨⟨_, _, rfl, ⟨rfl, rfl⟩, by rw [ht]; exact hP, hD⟩, hS.F ht⟩) hS.2.2 d_Bc_rule_41
      · have c4 := fun h9 => c4 ((lg_cmp_le _ _).mpr h9)
        have hf := op_e hf c4
        refine lv_iconst (v := 0) hx hb d_Bc_rule_21 (by decide) ?_
        obtain rfl := Option.some.inj hf
        subst hQ
        subst hAe
        exact W.zret (v := 0) (ty := .boolean) hx hb hr (by decide) (fun t ht hW => ⟨⟨_, _, rfl, ⟨rfl, rfl⟩, by rw [ht]; exact hP, hD⟩, hS.F ht⟩) hS.2.2 d_Bc_rule_22
def f_Bc_length (nl : Nat) (nT : Nat → Nat) (LS : Nat → MS) (TS : Nat → MS) (FP : Nat → Bool) (FS : Nat → MS) (bc : MS) (sg : MS) (tr : MS) (tu : MS) (ff : MS) (pl : MS) (lw : MS) (p1 : Int32) (p2 : Int32) : Option (Int64) := (f_Bc_lineAt nl nT LS TS FP FS bc sg tr tu ff pl lw p1).bind fun q1 => q1.elim (some (-1)) (fun i2 => (if p2 = 0 then (f_Bc_cutLength nl nT LS TS FP FS bc sg tr tu ff pl lw i2).bind fun q3 => some q3.toInt64 else (if p2 = 1 then some (((LS i2).1 2).toInt64) else (if p2 = 2 then (f_Ln_sumOfLegs (LS i2)).bind fun q5 => some q5.toInt64 else (if p2 = 3 then some (((LS i2).1 1).toInt64) else (if p2 = 4 then some (((LS i2).1 0).toInt64) else some (-1)))))))
def rm_Bc_length : Room := { frames := 2, cells := 0, slots := 0, locals := 52 }
set_option maxHeartbeats 4000000 in
set_option maxRecDepth 100000 in
theorem m_Bc_length (l : Launch) (dC : Nat → ClassId) (dI : Nat → Nat → Nat) (tC : Nat → ClassId) (TL : va_W) (nl : Nat) (hL : Nat → Nat) (adL aT : Nat → Nat → Nat) (nT : Nat → Nat) (LS TS : Nat → MS) (FP : Nat → Bool) (hF : Nat → Nat) (adF : Nat → Nat → Nat) (FS : Nat → MS) (rf : Nat → Nat → Option Nat) (h_bc : Nat) (ad_bc : Nat → Nat) (bc : MS) (ad_sg : Nat → Nat) (sg : MS) (ad_tr : Nat → Nat) (tr : MS) (ad_tu : Nat → Nat) (tu : MS) (ad_ff : Nat → Nat) (ff : MS) (ad_pl : Nat → Nat) (pl : MS) (ad_lw : Nat → Nat) (lw : MS) (p1 : Int32) (p2 : Int32) (R : Int64) (H : Heap) (hFM : FM tC TL nl hL adL aT nT LS TS FP hF adF FS rf) (hP : va_P (dC, dI) vwCl (w_Bc_ h_bc ad_bc tC rf bc ++ (w_Sg_ (ad_bc 100) ad_sg tC sg ++ (w_Tr_ (ad_bc 104) ad_tr tC tr ++ (w_Tr_ (ad_bc 105) ad_tu tC tu ++ (w_Ff_ (ad_bc 103) ad_ff tC ff ++ (w_Pl_ (ad_bc 101) ad_pl tC pl ++ (w_Lw_ (ad_bc 102) ad_lw tC lw ++ TL))))))) H) (hf : f_Bc_length nl nT LS TS FP FS bc sg tr tu ff pl lw p1 p2 = some R) : Met l y_Bc_length w_Bc_length rm_Bc_length (roP (dC, dI) tC H [.ref h_bc, .int p1, .int p2]) (roQ H (some (.long R))) 0 0 (fun _ => False) := by
  refine Met.ofW (cc := c_Bc_length) (maxL := 4) (ret := (some (.long))) (by decide) rfl ?_
  intro p e s m args below meth c s₁ B hml hv
  obtain ⟨hav, hH, hK⟩ := hv
  have hx := B.exec
  have hb := B.bytes
  have hr := B.returns
  have hts : ∀ w ∈ gw, w.before args s = true := fun w h => atoms_spec (ws := w_Bc_length) B.pre w (List.mem_cons_of_mem _ h)
  have hown : s.vm.findClass RX8 = some m.cls := findClass_of_methodNamed B.named
  have hlocks := B.notSynchronized
  subst hH
  refine q_w (R := rm_Bc_length) (fun Q hQ => ?_)
  refine en_w (av := [.ref h_bc, .int p1, .int p2]) hav (Nat.le_of_ble_eq_true rfl) (fun ls hl => ?_)
  have hl : lv_has ls 4 [(0, .ref h_bc), (1, .int p1), (2, .int p2)] := hl
  unfold f_Bc_length at hf
  refine lv_aload_n hx hb d_Bc_length_0 rfl (lv_at hl 0 rfl) ?_
  refine lv_iload_n hx hb d_Bc_length_1 rfl (lv_at hl 1 rfl) ?_
  obtain ⟨q1, hq1, hf⟩ := op_b hf
  refine ro_go rfl (va_runV (As := [.int p1]) (rest := []) ⟨hx, hb, hml, hown, hts⟩ (m_Bc_lineAt l dC dI tC TL nl hL adL aT nT LS TS FP hF adF FS rf h_bc ad_bc bc ad_sg sg ad_tr tr ad_tu tu ad_ff ff ad_pl pl ad_lw lw p1  q1 _ hFM hP hq1) (cwV 1 hts (gd_V kM_8_102 kI_Bc_lineAt kV_Bc_lineAt kZ_8 kC_Bc_lineAt) rfl rfl rfl (by decide +kernel) ⟨(Nat.le_of_ble_eq_true rfl), (Nat.le_of_ble_eq_true rfl)⟩) ⟨ro_blind, va_recv hK hP (ci := 8) (q0 := 0) rfl rfl, ro_pre hK⟩ rfl rfl hl.1 rfl (lv_room (Nat.le_of_ble_eq_true rfl)) d_Bc_length_2 ⟨(Nat.le_of_ble_eq_true rfl), (Nat.le_of_ble_eq_true rfl)⟩) ?_
  have hltq1 := lineAt_lt hq1
  rcases q1 with _ | i2
  · have hf := oe_n hf
    refine W.eq (g2 := F0 m 5 ls [.null]) rfl ?_
    refine lv_astore_nN (lv' := [(3, .null), (0, .ref h_bc), (1, .int p1), (2, .int p2)]) hx hb d_Bc_length_5 rfl hl (by decide) rfl (fun ls hl => ?_)
    refine lv_aload_nN hx hb d_Bc_length_6 rfl (lv_at hl 0 rfl) ?_
    refine lv_ifnonnullN hx hb d_Bc_length_7 ?_
    refine lv_ldc2 (v := (-1)) hx hb hown (hts _ kK_8_117) d_Bc_length_10 ?_
    obtain rfl := Option.some.inj hf
    subst hQ
    exact W.lret (v := (-1)) hx hb hr (fun t ht hW => ⟨rfl, ht⟩) (fun q h => by cases h) d_Bc_length_13
  · have hf := oe_s hf
    have hi2 := hltq1 i2 rfl
    refine W.eq (g2 := F0 m 5 ls [.ref (hL i2)]) rfl ?_
    refine lv_astore_n (lv' := [(3, .ref (hL i2)), (0, .ref h_bc), (1, .int p1), (2, .int p2)]) hx hb d_Bc_length_5 rfl hl (by decide) rfl (fun ls hl => ?_)
    refine lv_aload_n hx hb d_Bc_length_6 rfl (lv_at hl 0 rfl) ?_
    refine lv_ifnonnull (tgt := 14) hx hb d_Bc_length_7 (by decide) ?_
    refine lv_iload_n hx hb d_Bc_length_14 rfl (lv_at hl 3 rfl) ?_
    by_cases c9 : p2 = 0
    · refine lv_tableIn (tgt := 48) (off := 33) hx hb d_Bc_length_15 (by rw [c9]; decide) (by rw [c9]; decide) (by rw [c9]; decide) (by decide) ?_
      have hf := op_t hf c9
      refine lv_aload_n hx hb d_Bc_length_48 rfl (lv_at hl 1 rfl) ?_
      refine lv_aload_n hx hb d_Bc_length_49 rfl (lv_at hl 0 rfl) ?_
      obtain ⟨q3, hq3, hf⟩ := op_b hf
      refine ro_go rfl (va_runV (As := [.ref (hL i2)]) (rest := []) ⟨hx, hb, hml, hown, hts⟩ (m_Bc_cutLength l dC dI tC TL nl hL adL aT nT LS TS FP hF adF FS rf h_bc ad_bc bc ad_sg sg ad_tr tr ad_tu tu ad_ff ff ad_pl pl ad_lw lw i2 hi2 q3 _ hFM hP hq3) (cwV 1 hts (gd_V kM_8_119 kI_Bc_cutLength kV_Bc_cutLength kZ_8 kC_Bc_cutLength) rfl rfl rfl (by decide +kernel) ⟨(Nat.le_of_ble_eq_true rfl), (Nat.le_of_ble_eq_true rfl)⟩) ⟨ro_blind, va_recv hK hP (ci := 8) (q0 := 0) rfl rfl, ro_pre hK⟩ rfl rfl hl.1 rfl (lv_room (Nat.le_of_ble_eq_true rfl)) d_Bc_length_50 ⟨(Nat.le_of_ble_eq_true rfl), (Nat.le_of_ble_eq_true rfl)⟩) ?_
      refine W.eq (g2 := F0 m 53 ls [.int q3]) rfl ?_
      refine lv_i2l (v := q3.toInt64) hx hb d_Bc_length_53 rfl ?_
      obtain rfl := Option.some.inj hf
      subst hQ
      exact W.lret (v := q3.toInt64) hx hb hr (fun t ht hW => ⟨rfl, ht⟩) (fun q h => by cases h) d_Bc_length_54
    have hf := op_e hf c9
    by_cases c10 : p2 = 1
    · refine lv_tableIn (tgt := 55) (off := 40) hx hb d_Bc_length_15 (by rw [c10]; decide) (by rw [c10]; decide) (by rw [c10]; decide) (by decide) ?_
      have hf := op_t hf c10
      refine lv_aload_n hx hb d_Bc_length_55 rfl (lv_at hl 0 rfl) ?_
      obtain ⟨k4, hk4⟩ := List.getElem?_of_mem (List.mem_append_right _ (List.mem_append_right _ (List.mem_append_right _ (List.mem_append_right _ (List.mem_append_right _ (List.mem_append_right _ (List.mem_append_right _ ((hFM.1 i2 hi2) _ (List.mem_of_getElem? (i := 0) rfl)))))))))
      refine va_get (D := (dC, dI)) (ci := 2) (v := .int ((LS i2).1 2)) (C := RX2) (T := TX2) (N := 9) hx hb hts in_X2 hown hK hP k4 hk4 rfl 3 (by decide) (hts _ kF_8_123) (fun _ h9 => h9) rfl d_Bc_length_56 ?_
      refine lv_i2l (v := ((LS i2).1 2).toInt64) hx hb d_Bc_length_59 rfl ?_
      obtain rfl := Option.some.inj hf
      subst hQ
      exact W.lret (v := ((LS i2).1 2).toInt64) hx hb hr (fun t ht hW => ⟨rfl, ht⟩) (fun q h => by cases h) d_Bc_length_60
    have hf := op_e hf c10
    by_cases c11 : p2 = 2
    · refine lv_tableIn (tgt := 61) (off := 46) hx hb d_Bc_length_15 (by rw [c11]; decide) (by rw [c11]; decide) (by rw [c11]; decide) (by decide) ?_
      have hf := op_t hf c11
      refine lv_aload_n hx hb d_Bc_length_61 rfl (lv_at hl 0 rfl) ?_
      obtain ⟨q5, hq5, hf⟩ := op_b hf
      obtain ⟨k6, hk6⟩ := List.getElem?_of_mem (List.mem_append_right _ (List.mem_append_right _ (List.mem_append_right _ (List.mem_append_right _ (List.mem_append_right _ (List.mem_append_right _ (List.mem_append_right _ ((hFM.1 i2 hi2) _ (List.mem_of_getElem? (i := 0) rfl)))))))))
      refine ro_go rfl (va_runV (As := []) (rest := []) ⟨hx, hb, hml, hown, hts⟩ (m_Ln_sumOfLegs l dC dI tC (hL i2) (adL i2) (LS i2) q5 _ (va_P_in hP (fun q h => (List.mem_append_right _ (List.mem_append_right _ (List.mem_append_right _ (List.mem_append_right _ (List.mem_append_right _ (List.mem_append_right _ (List.mem_append_right _ ((hFM.1 i2 hi2) q h)))))))))) hq5) (cwV 0 hts (gd_V kM_8_126 kI_Ln_sumOfLegs kV_Ln_sumOfLegs kZ_2 kC_Ln_sumOfLegs) rfl rfl rfl (by decide +kernel) ⟨(Nat.le_of_ble_eq_true rfl), (Nat.le_of_ble_eq_true rfl)⟩) ⟨ro_blind, va_recv hK hP (ci := 2) (q0 := k6) rfl hk6, ro_pre hK⟩ rfl rfl hl.1 rfl (lv_room (Nat.le_of_ble_eq_true rfl)) d_Bc_length_62 ⟨(Nat.le_of_ble_eq_true rfl), (Nat.le_of_ble_eq_true rfl)⟩) ?_
      refine W.eq (g2 := F0 m 65 ls [.int q5]) rfl ?_
      refine lv_i2l (v := q5.toInt64) hx hb d_Bc_length_65 rfl ?_
      obtain rfl := Option.some.inj hf
      subst hQ
      exact W.lret (v := q5.toInt64) hx hb hr (fun t ht hW => ⟨rfl, ht⟩) (fun q h => by cases h) d_Bc_length_66
    have hf := op_e hf c11
    by_cases c12 : p2 = 3
    · refine lv_tableIn (tgt := 67) (off := 52) hx hb d_Bc_length_15 (by rw [c12]; decide) (by rw [c12]; decide) (by rw [c12]; decide) (by decide) ?_
      have hf := op_t hf c12
      refine lv_aload_n hx hb d_Bc_length_67 rfl (lv_at hl 0 rfl) ?_
      obtain ⟨k7, hk7⟩ := List.getElem?_of_mem (List.mem_append_right _ (List.mem_append_right _ (List.mem_append_right _ (List.mem_append_right _ (List.mem_append_right _ (List.mem_append_right _ (List.mem_append_right _ ((hFM.1 i2 hi2) _ (List.mem_of_getElem? (i := 0) rfl)))))))))
      refine va_get (D := (dC, dI)) (ci := 2) (v := .int ((LS i2).1 1)) (C := RX2) (T := TX2) (N := 9) hx hb hts in_X2 hown hK hP k7 hk7 rfl 2 (by decide) (hts _ kF_8_129) (fun _ h9 => h9) rfl d_Bc_length_68 ?_
      refine lv_i2l (v := ((LS i2).1 1).toInt64) hx hb d_Bc_length_71 rfl ?_
      obtain rfl := Option.some.inj hf
      subst hQ
      exact W.lret (v := ((LS i2).1 1).toInt64) hx hb hr (fun t ht hW => ⟨rfl, ht⟩) (fun q h => by cases h) d_Bc_length_72
    have hf := op_e hf c12
    by_cases c13 : p2 = 4
    · refine lv_tableIn (tgt := 73) (off := 58) hx hb d_Bc_length_15 (by rw [c13]; decide) (by rw [c13]; decide) (by rw [c13]; decide) (by decide) ?_
      have hf := op_t hf c13
      refine lv_aload_n hx hb d_Bc_length_73 rfl (lv_at hl 0 rfl) ?_
      obtain ⟨k8, hk8⟩ := List.getElem?_of_mem (List.mem_append_right _ (List.mem_append_right _ (List.mem_append_right _ (List.mem_append_right _ (List.mem_append_right _ (List.mem_append_right _ (List.mem_append_right _ ((hFM.1 i2 hi2) _ (List.mem_of_getElem? (i := 0) rfl)))))))))
      refine va_get (D := (dC, dI)) (ci := 2) (v := .int ((LS i2).1 0)) (C := RX2) (T := TX2) (N := 9) hx hb hts in_X2 hown hK hP k8 hk8 rfl 0 (by decide) (hts _ kF_8_132) (fun _ h9 => h9) rfl d_Bc_length_74 ?_
      refine lv_i2l (v := ((LS i2).1 0).toInt64) hx hb d_Bc_length_77 rfl ?_
      obtain rfl := Option.some.inj hf
      subst hQ
      exact W.lret (v := ((LS i2).1 0).toInt64) hx hb hr (fun t ht hW => ⟨rfl, ht⟩) (fun q h => by cases h) d_Bc_length_78
    have hf := op_e hf c13
    have nc9 := lv_neT c9 (a := 0) (by decide)
    have nc10 := lv_neT c10 (a := 1) (by decide)
    have nc11 := lv_neT c11 (a := 2) (by decide)
    have nc12 := lv_neT c12 (a := 3) (by decide)
    have nc13 := lv_neT c13 (a := 4) (by decide)
    refine lv_tableOut (tgt := 79) hx hb d_Bc_length_15 (by omega) (by decide) ?_
    refine lv_ldc2 (v := (-1)) hx hb hown (hts _ kK_8_117) d_Bc_length_79 ?_
    obtain rfl := Option.some.inj hf
    subst hQ
    exact W.lret (v := (-1)) hx hb hr (fun t ht hW => ⟨rfl, ht⟩) (fun q h => by cases h) d_Bc_length_82
def f_Bc_loss (nl : Nat) (nT : Nat → Nat) (LS : Nat → MS) (TS : Nat → MS) (FP : Nat → Bool) (FS : Nat → MS) (bc : MS) (sg : MS) (tr : MS) (tu : MS) (ff : MS) (pl : MS) (lw : MS) (p1 : Int32) : Option (Int64) := (if (pl.1 4) = 0 then some (-1) else (if p1 = 0 then (f_Pl_sumOfBars pl).bind fun q2 => (f_Pl_sumOfPieces pl).bind fun q3 => some ((q2 - q3).toInt64) else (if p1 = 1 then (f_Pl_sumOfBars pl).bind fun q4 => some q4.toInt64 else (if p1 = 2 then (f_Pl_sumOfPieces pl).bind fun q5 => some q5.toInt64 else some (-1)))))
def rm_Bc_loss : Room := { frames := 1, cells := 0, slots := 0, locals := 22 }
set_option maxHeartbeats 4000000 in
set_option maxRecDepth 100000 in
theorem m_Bc_loss (l : Launch) (dC : Nat → ClassId) (dI : Nat → Nat → Nat) (tC : Nat → ClassId) (TL : va_W) (nl : Nat) (hL : Nat → Nat) (adL aT : Nat → Nat → Nat) (nT : Nat → Nat) (LS TS : Nat → MS) (FP : Nat → Bool) (hF : Nat → Nat) (adF : Nat → Nat → Nat) (FS : Nat → MS) (rf : Nat → Nat → Option Nat) (h_bc : Nat) (ad_bc : Nat → Nat) (bc : MS) (ad_sg : Nat → Nat) (sg : MS) (ad_tr : Nat → Nat) (tr : MS) (ad_tu : Nat → Nat) (tu : MS) (ad_ff : Nat → Nat) (ff : MS) (ad_pl : Nat → Nat) (pl : MS) (ad_lw : Nat → Nat) (lw : MS) (p1 : Int32) (R : Int64) (H : Heap) (hFM : FM tC TL nl hL adL aT nT LS TS FP hF adF FS rf) (hP : va_P (dC, dI) vwCl (w_Bc_ h_bc ad_bc tC rf bc ++ (w_Sg_ (ad_bc 100) ad_sg tC sg ++ (w_Tr_ (ad_bc 104) ad_tr tC tr ++ (w_Tr_ (ad_bc 105) ad_tu tC tu ++ (w_Ff_ (ad_bc 103) ad_ff tC ff ++ (w_Pl_ (ad_bc 101) ad_pl tC pl ++ (w_Lw_ (ad_bc 102) ad_lw tC lw ++ TL))))))) H) (hf : f_Bc_loss nl nT LS TS FP FS bc sg tr tu ff pl lw p1 = some R) : Met l y_Bc_loss w_Bc_loss rm_Bc_loss (roP (dC, dI) tC H [.ref h_bc, .int p1]) (roQ H (some (.long R))) 0 0 (fun _ => False) := by
  refine Met.ofW (cc := c_Bc_loss) (maxL := 2) (ret := (some (.long))) (by decide) rfl ?_
  intro p e s m args below meth c s₁ B hml hv
  obtain ⟨hav, hH, hK⟩ := hv
  have hx := B.exec
  have hb := B.bytes
  have hr := B.returns
  have hts : ∀ w ∈ gw, w.before args s = true := fun w h => atoms_spec (ws := w_Bc_loss) B.pre w (List.mem_cons_of_mem _ h)
  have hown : s.vm.findClass RX8 = some m.cls := findClass_of_methodNamed B.named
  have hlocks := B.notSynchronized
  subst hH
  refine q_w (R := rm_Bc_loss) (fun Q hQ => ?_)
  refine en_w (av := [.ref h_bc, .int p1]) hav (Nat.le_of_ble_eq_true rfl) (fun ls hl => ?_)
  have hl : lv_has ls 2 [(0, .ref h_bc), (1, .int p1)] := hl
  unfold f_Bc_loss at hf
  refine lv_aload_n hx hb d_Bc_loss_0 rfl (lv_at hl 0 rfl) ?_
  refine va_get (D := (dC, dI)) (ci := 8) (v := .ref (ad_bc 101)) (C := RX8) (T := TX8) (N := 12) hx hb hts in_X8 hown hK hP 0 rfl rfl 5 (by decide) (hts _ kF_8_41) (fun _ h9 => h9) rfl d_Bc_loss_1 ?_
  refine va_get (D := (dC, dI)) (ci := 3) (v := .int (pl.1 4)) (C := RX3) (T := TX3) (N := 12) hx hb hts in_X3 hown hK hP 21 rfl rfl 11 (by decide) (hts _ kF_8_147) (fun _ h9 => h9) rfl d_Bc_loss_4 ?_
  refine lv_if_ne (tgt := 14) hx hb d_Bc_loss_7 (by decide) (fun c1 => ?_) (fun c1 => ?_)
  · have hf := op_e hf c1
    refine lv_iload_n hx hb d_Bc_loss_14 rfl (lv_at hl 1 rfl) ?_
    by_cases c6 : p1 = 0
    · refine lv_tableIn (tgt := 40) (off := 25) hx hb d_Bc_loss_15 (by rw [c6]; decide) (by rw [c6]; decide) (by rw [c6]; decide) (by decide) ?_
      have hf := op_t hf c6
      refine lv_aload_n hx hb d_Bc_loss_40 rfl (lv_at hl 0 rfl) ?_
      refine va_get (D := (dC, dI)) (ci := 8) (v := .ref (ad_bc 101)) (C := RX8) (T := TX8) (N := 12) hx hb hts in_X8 hown hK hP 0 rfl rfl 5 (by decide) (hts _ kF_8_41) (fun _ h9 => h9) rfl d_Bc_loss_41 ?_
      obtain ⟨q2, hq2, hf⟩ := op_b hf
      refine ro_go rfl (va_runV (As := []) (rest := []) ⟨hx, hb, hml, hown, hts⟩ (m_Pl_sumOfBars l dC dI tC (ad_bc 101) ad_pl pl q2 _ (hP.sub (ws' := (w_Pl_ (ad_bc 101) ad_pl tC pl)) [21, 22, 23, 24, 25, 26, 27, 28] rfl) hq2) (cwV 0 hts (gd_V kM_8_152 kI_Pl_sumOfBars kV_Pl_sumOfBars kZ_3 kC_Pl_sumOfBars) rfl rfl rfl (by decide +kernel) ⟨(Nat.le_of_ble_eq_true rfl), (Nat.le_of_ble_eq_true rfl)⟩) ⟨ro_blind, va_recv hK hP (ci := 3) (q0 := 21) rfl rfl, ro_pre hK⟩ rfl rfl hl.1 rfl (lv_room (Nat.le_of_ble_eq_true rfl)) d_Bc_loss_44 ⟨(Nat.le_of_ble_eq_true rfl), (Nat.le_of_ble_eq_true rfl)⟩) ?_
      refine W.eq (g2 := F0 m 47 ls [.int q2]) rfl ?_
      refine lv_aload_n hx hb d_Bc_loss_47 rfl (lv_at hl 0 rfl) ?_
      refine va_get (D := (dC, dI)) (ci := 8) (v := .ref (ad_bc 101)) (C := RX8) (T := TX8) (N := 12) hx hb hts in_X8 hown hK hP 0 rfl rfl 5 (by decide) (hts _ kF_8_41) (fun _ h9 => h9) rfl d_Bc_loss_48 ?_
      obtain ⟨q3, hq3, hf⟩ := op_b hf
      refine ro_go rfl (va_runV (As := []) (rest := [.int q2]) ⟨hx, hb, hml, hown, hts⟩ (m_Pl_sumOfPieces l dC dI tC (ad_bc 101) ad_pl pl q3 _ (hP.sub (ws' := (w_Pl_ (ad_bc 101) ad_pl tC pl)) [21, 22, 23, 24, 25, 26, 27, 28] rfl) hq3) (cwV 0 hts (gd_V kM_8_155 kI_Pl_sumOfPieces kV_Pl_sumOfPieces kZ_3 kC_Pl_sumOfPieces) rfl rfl rfl (by decide +kernel) ⟨(Nat.le_of_ble_eq_true rfl), (Nat.le_of_ble_eq_true rfl)⟩) ⟨ro_blind, va_recv hK hP (ci := 3) (q0 := 21) rfl rfl, ro_pre hK⟩ rfl rfl hl.1 rfl (lv_room (Nat.le_of_ble_eq_true rfl)) d_Bc_loss_51 ⟨(Nat.le_of_ble_eq_true rfl), (Nat.le_of_ble_eq_true rfl)⟩) ?_
      refine W.eq (g2 := F0 m 54 ls [.int q3, .int q2]) rfl ?_
      refine lv_isub hx hb d_Bc_loss_54 ?_
      refine lv_i2l (v := (q2 - q3).toInt64) hx hb d_Bc_loss_55 rfl ?_
      obtain rfl := Option.some.inj hf
      subst hQ
      exact W.lret (v := (q2 - q3).toInt64) hx hb hr (fun t ht hW => ⟨rfl, ht⟩) (fun q h => by cases h) d_Bc_loss_56
    have hf := op_e hf c6
    by_cases c7 : p1 = 1
    · refine lv_tableIn (tgt := 57) (off := 42) hx hb d_Bc_loss_15 (by rw [c7]; decide) (by rw [c7]; decide) (by rw [c7]; decide) (by decide) ?_
      have hf := op_t hf c7
      refine lv_aload_n hx hb d_Bc_loss_57 rfl (lv_at hl 0 rfl) ?_
      refine va_get (D := (dC, dI)) (ci := 8) (v := .ref (ad_bc 101)) (C := RX8) (T := TX8) (N := 12) hx hb hts in_X8 hown hK hP 0 rfl rfl 5 (by decide) (hts _ kF_8_41) (fun _ h9 => h9) rfl d_Bc_loss_58 ?_
      obtain ⟨q4, hq4, hf⟩ := op_b hf
      refine ro_go rfl (va_runV (As := []) (rest := []) ⟨hx, hb, hml, hown, hts⟩ (m_Pl_sumOfBars l dC dI tC (ad_bc 101) ad_pl pl q4 _ (hP.sub (ws' := (w_Pl_ (ad_bc 101) ad_pl tC pl)) [21, 22, 23, 24, 25, 26, 27, 28] rfl) hq4) (cwV 0 hts (gd_V kM_8_152 kI_Pl_sumOfBars kV_Pl_sumOfBars kZ_3 kC_Pl_sumOfBars) rfl rfl rfl (by decide +kernel) ⟨(Nat.le_of_ble_eq_true rfl), (Nat.le_of_ble_eq_true rfl)⟩) ⟨ro_blind, va_recv hK hP (ci := 3) (q0 := 21) rfl rfl, ro_pre hK⟩ rfl rfl hl.1 rfl (lv_room (Nat.le_of_ble_eq_true rfl)) d_Bc_loss_61 ⟨(Nat.le_of_ble_eq_true rfl), (Nat.le_of_ble_eq_true rfl)⟩) ?_
      refine W.eq (g2 := F0 m 64 ls [.int q4]) rfl ?_
      refine lv_i2l (v := q4.toInt64) hx hb d_Bc_loss_64 rfl ?_
      obtain rfl := Option.some.inj hf
      subst hQ
      exact W.lret (v := q4.toInt64) hx hb hr (fun t ht hW => ⟨rfl, ht⟩) (fun q h => by cases h) d_Bc_loss_65
    have hf := op_e hf c7
    by_cases c8 : p1 = 2
    · refine lv_tableIn (tgt := 66) (off := 51) hx hb d_Bc_loss_15 (by rw [c8]; decide) (by rw [c8]; decide) (by rw [c8]; decide) (by decide) ?_
      have hf := op_t hf c8
      refine lv_aload_n hx hb d_Bc_loss_66 rfl (lv_at hl 0 rfl) ?_
      refine va_get (D := (dC, dI)) (ci := 8) (v := .ref (ad_bc 101)) (C := RX8) (T := TX8) (N := 12) hx hb hts in_X8 hown hK hP 0 rfl rfl 5 (by decide) (hts _ kF_8_41) (fun _ h9 => h9) rfl d_Bc_loss_67 ?_
      obtain ⟨q5, hq5, hf⟩ := op_b hf
      refine ro_go rfl (va_runV (As := []) (rest := []) ⟨hx, hb, hml, hown, hts⟩ (m_Pl_sumOfPieces l dC dI tC (ad_bc 101) ad_pl pl q5 _ (hP.sub (ws' := (w_Pl_ (ad_bc 101) ad_pl tC pl)) [21, 22, 23, 24, 25, 26, 27, 28] rfl) hq5) (cwV 0 hts (gd_V kM_8_155 kI_Pl_sumOfPieces kV_Pl_sumOfPieces kZ_3 kC_Pl_sumOfPieces) rfl rfl rfl (by decide +kernel) ⟨(Nat.le_of_ble_eq_true rfl), (Nat.le_of_ble_eq_true rfl)⟩) ⟨ro_blind, va_recv hK hP (ci := 3) (q0 := 21) rfl rfl, ro_pre hK⟩ rfl rfl hl.1 rfl (lv_room (Nat.le_of_ble_eq_true rfl)) d_Bc_loss_70 ⟨(Nat.le_of_ble_eq_true rfl), (Nat.le_of_ble_eq_true rfl)⟩) ?_
      refine W.eq (g2 := F0 m 73 ls [.int q5]) rfl ?_
      refine lv_i2l (v := q5.toInt64) hx hb d_Bc_loss_73 rfl ?_
      obtain rfl := Option.some.inj hf
      subst hQ
      exact W.lret (v := q5.toInt64) hx hb hr (fun t ht hW => ⟨rfl, ht⟩) (fun q h => by cases h) d_Bc_loss_74
    have hf := op_e hf c8
    have nc6 := lv_neT c6 (a := 0) (by decide)
    have nc7 := lv_neT c7 (a := 1) (by decide)
    have nc8 := lv_neT c8 (a := 2) (by decide)
    refine lv_tableOut (tgt := 75) hx hb d_Bc_loss_15 (by omega) (by decide) ?_
    refine lv_ldc2 (v := (-1)) hx hb hown (hts _ kK_8_117) d_Bc_loss_75 ?_
    obtain rfl := Option.some.inj hf
    subst hQ
    exact W.lret (v := (-1)) hx hb hr (fun t ht hW => ⟨rfl, ht⟩) (fun q h => by cases h) d_Bc_loss_78
  · have hf := op_t hf c1
    refine lv_ldc2 (v := (-1)) hx hb hown (hts _ kK_8_117) d_Bc_loss_10 ?_
    obtain rfl := Option.some.inj hf
    subst hQ
    exact W.lret (v := (-1)) hx hb hr (fun t ht hW => ⟨rfl, ht⟩) (fun q h => by cases h) d_Bc_loss_13
def f_Bc_bound (nl : Nat) (nT : Nat → Nat) (LS : Nat → MS) (TS : Nat → MS) (FP : Nat → Bool) (FS : Nat → MS) (bc : MS) (sg : MS) (tr : MS) (tu : MS) (ff : MS) (pl : MS) (lw : MS) (p1 : Int32) : Option (Int64) := (if (pl.1 4) = 0 then some (-1) else (if p1 = 0 then (f_Pl_sumOfPieces pl).bind fun q2 => some q2.toInt64 else (if p1 = 1 then some ((pl.1 3).toInt64) else some (-1))))
def rm_Bc_bound : Room := { frames := 1, cells := 0, slots := 0, locals := 22 }
set_option maxHeartbeats 4000000 in
set_option maxRecDepth 100000 in
theorem m_Bc_bound (l : Launch) (dC : Nat → ClassId) (dI : Nat → Nat → Nat) (tC : Nat → ClassId) (TL : va_W) (nl : Nat) (hL : Nat → Nat) (adL aT : Nat → Nat → Nat) (nT : Nat → Nat) (LS TS : Nat → MS) (FP : Nat → Bool) (hF : Nat → Nat) (adF : Nat → Nat → Nat) (FS : Nat → MS) (rf : Nat → Nat → Option Nat) (h_bc : Nat) (ad_bc : Nat → Nat) (bc : MS) (ad_sg : Nat → Nat) (sg : MS) (ad_tr : Nat → Nat) (tr : MS) (ad_tu : Nat → Nat) (tu : MS) (ad_ff : Nat → Nat) (ff : MS) (ad_pl : Nat → Nat) (pl : MS) (ad_lw : Nat → Nat) (lw : MS) (p1 : Int32) (R : Int64) (H : Heap) (hFM : FM tC TL nl hL adL aT nT LS TS FP hF adF FS rf) (hP : va_P (dC, dI) vwCl (w_Bc_ h_bc ad_bc tC rf bc ++ (w_Sg_ (ad_bc 100) ad_sg tC sg ++ (w_Tr_ (ad_bc 104) ad_tr tC tr ++ (w_Tr_ (ad_bc 105) ad_tu tC tu ++ (w_Ff_ (ad_bc 103) ad_ff tC ff ++ (w_Pl_ (ad_bc 101) ad_pl tC pl ++ (w_Lw_ (ad_bc 102) ad_lw tC lw ++ TL))))))) H) (hf : f_Bc_bound nl nT LS TS FP FS bc sg tr tu ff pl lw p1 = some R) : Met l y_Bc_bound w_Bc_bound rm_Bc_bound (roP (dC, dI) tC H [.ref h_bc, .int p1]) (roQ H (some (.long R))) 0 0 (fun _ => False) := by
  refine Met.ofW (cc := c_Bc_bound) (maxL := 2) (ret := (some (.long))) (by decide) rfl ?_
  intro p e s m args below meth c s₁ B hml hv
  obtain ⟨hav, hH, hK⟩ := hv
  have hx := B.exec
  have hb := B.bytes
  have hr := B.returns
  have hts : ∀ w ∈ gw, w.before args s = true := fun w h => atoms_spec (ws := w_Bc_bound) B.pre w (List.mem_cons_of_mem _ h)
  have hown : s.vm.findClass RX8 = some m.cls := findClass_of_methodNamed B.named
  have hlocks := B.notSynchronized
  subst hH
  refine q_w (R := rm_Bc_bound) (fun Q hQ => ?_)
  refine en_w (av := [.ref h_bc, .int p1]) hav (Nat.le_of_ble_eq_true rfl) (fun ls hl => ?_)
  have hl : lv_has ls 2 [(0, .ref h_bc), (1, .int p1)] := hl
  unfold f_Bc_bound at hf
  refine lv_aload_n hx hb d_Bc_bound_0 rfl (lv_at hl 0 rfl) ?_
  refine va_get (D := (dC, dI)) (ci := 8) (v := .ref (ad_bc 101)) (C := RX8) (T := TX8) (N := 12) hx hb hts in_X8 hown hK hP 0 rfl rfl 5 (by decide) (hts _ kF_8_41) (fun _ h9 => h9) rfl d_Bc_bound_1 ?_
  refine va_get (D := (dC, dI)) (ci := 3) (v := .int (pl.1 4)) (C := RX3) (T := TX3) (N := 12) hx hb hts in_X3 hown hK hP 21 rfl rfl 11 (by decide) (hts _ kF_8_147) (fun _ h9 => h9) rfl d_Bc_bound_4 ?_
  refine lv_if_ne (tgt := 14) hx hb d_Bc_bound_7 (by decide) (fun c1 => ?_) (fun c1 => ?_)
  · have hf := op_e hf c1
    refine lv_iload_n hx hb d_Bc_bound_14 rfl (lv_at hl 1 rfl) ?_
    by_cases c3 : p1 = 0
    · refine lv_lookup (tgt := 40) (off := 25) hx hb d_Bc_bound_15 (by decide) (by rw [c3]; decide) (by decide) ?_
      have hf := op_t hf c3
      refine lv_aload_n hx hb d_Bc_bound_40 rfl (lv_at hl 0 rfl) ?_
      refine va_get (D := (dC, dI)) (ci := 8) (v := .ref (ad_bc 101)) (C := RX8) (T := TX8) (N := 12) hx hb hts in_X8 hown hK hP 0 rfl rfl 5 (by decide) (hts _ kF_8_41) (fun _ h9 => h9) rfl d_Bc_bound_41 ?_
      obtain ⟨q2, hq2, hf⟩ := op_b hf
      refine ro_go rfl (va_runV (As := []) (rest := []) ⟨hx, hb, hml, hown, hts⟩ (m_Pl_sumOfPieces l dC dI tC (ad_bc 101) ad_pl pl q2 _ (hP.sub (ws' := (w_Pl_ (ad_bc 101) ad_pl tC pl)) [21, 22, 23, 24, 25, 26, 27, 28] rfl) hq2) (cwV 0 hts (gd_V kM_8_155 kI_Pl_sumOfPieces kV_Pl_sumOfPieces kZ_3 kC_Pl_sumOfPieces) rfl rfl rfl (by decide +kernel) ⟨(Nat.le_of_ble_eq_true rfl), (Nat.le_of_ble_eq_true rfl)⟩) ⟨ro_blind, va_recv hK hP (ci := 3) (q0 := 21) rfl rfl, ro_pre hK⟩ rfl rfl hl.1 rfl (lv_room (Nat.le_of_ble_eq_true rfl)) d_Bc_bound_44 ⟨(Nat.le_of_ble_eq_true rfl), (Nat.le_of_ble_eq_true rfl)⟩) ?_
      refine W.eq (g2 := F0 m 47 ls [.int q2]) rfl ?_
      refine lv_i2l (v := q2.toInt64) hx hb d_Bc_bound_47 rfl ?_
      obtain rfl := Option.some.inj hf
      subst hQ
      exact W.lret (v := q2.toInt64) hx hb hr (fun t ht hW => ⟨rfl, ht⟩) (fun q h => by cases h) d_Bc_bound_48
    have hf := op_e hf c3
    by_cases c4 : p1 = 1
    · refine lv_lookup (tgt := 49) (off := 34) hx hb d_Bc_bound_15 (by decide) (by rw [c4]; decide) (by decide) ?_
      have hf := op_t hf c4
      refine lv_aload_n hx hb d_Bc_bound_49 rfl (lv_at hl 0 rfl) ?_
      refine va_get (D := (dC, dI)) (ci := 8) (v := .ref (ad_bc 101)) (C := RX8) (T := TX8) (N := 12) hx hb hts in_X8 hown hK hP 0 rfl rfl 5 (by decide) (hts _ kF_8_41) (fun _ h9 => h9) rfl d_Bc_bound_50 ?_
      refine va_get (D := (dC, dI)) (ci := 3) (v := .int (pl.1 3)) (C := RX3) (T := TX3) (N := 12) hx hb hts in_X3 hown hK hP 21 rfl rfl 10 (by decide) (hts _ kF_8_158) (fun _ h9 => h9) rfl d_Bc_bound_53 ?_
      refine lv_i2l (v := (pl.1 3).toInt64) hx hb d_Bc_bound_56 rfl ?_
      obtain rfl := Option.some.inj hf
      subst hQ
      exact W.lret (v := (pl.1 3).toInt64) hx hb hr (fun t ht hW => ⟨rfl, ht⟩) (fun q h => by cases h) d_Bc_bound_57
    have hf := op_e hf c4
    refine lv_lookup (tgt := 58) (off := 43) hx hb d_Bc_bound_15 (by decide) (by show Op.lookupswitch.offset [(0, 25), (1, 34)] 43 (p1).toInt = _; rw [lv_osw c3 (by decide), lv_osw c4 (by decide)]; rfl) (by decide) ?_
    refine lv_ldc2 (v := (-1)) hx hb hown (hts _ kK_8_117) d_Bc_bound_58 ?_
    obtain rfl := Option.some.inj hf
    subst hQ
    exact W.lret (v := (-1)) hx hb hr (fun t ht hW => ⟨rfl, ht⟩) (fun q h => by cases h) d_Bc_bound_61
  · have hf := op_t hf c1
    refine lv_ldc2 (v := (-1)) hx hb hown (hts _ kK_8_117) d_Bc_bound_10 ?_
    obtain rfl := Option.some.inj hf
    subst hQ
    exact W.lret (v := (-1)) hx hb hr (fun t ht hW => ⟨rfl, ht⟩) (fun q h => by cases h) d_Bc_bound_13
def f_Bc_proved (nl : Nat) (nT : Nat → Nat) (LS : Nat → MS) (TS : Nat → MS) (FP : Nat → Bool) (FS : Nat → MS) (bc : MS) (sg : MS) (tr : MS) (tu : MS) (ff : MS) (pl : MS) (lw : MS) : Option (Int32) := (if (pl.1 4) = 0 then some 0 else (if (pl.1 3) = (pl.1 2) then some 1 else some 0))
def rm_Bc_proved : Room := { frames := 0, cells := 0, slots := 0, locals := 0 }
set_option maxHeartbeats 4000000 in
set_option maxRecDepth 100000 in
theorem m_Bc_proved (l : Launch) (dC : Nat → ClassId) (dI : Nat → Nat → Nat) (tC : Nat → ClassId) (TL : va_W) (nl : Nat) (hL : Nat → Nat) (adL aT : Nat → Nat → Nat) (nT : Nat → Nat) (LS TS : Nat → MS) (FP : Nat → Bool) (hF : Nat → Nat) (adF : Nat → Nat → Nat) (FS : Nat → MS) (rf : Nat → Nat → Option Nat) (h_bc : Nat) (ad_bc : Nat → Nat) (bc : MS) (ad_sg : Nat → Nat) (sg : MS) (ad_tr : Nat → Nat) (tr : MS) (ad_tu : Nat → Nat) (tu : MS) (ad_ff : Nat → Nat) (ff : MS) (ad_pl : Nat → Nat) (pl : MS) (ad_lw : Nat → Nat) (lw : MS) (R : Int32) (H : Heap) (hFM : FM tC TL nl hL adL aT nT LS TS FP hF adF FS rf) (hP : va_P (dC, dI) vwCl (w_Bc_ h_bc ad_bc tC rf bc ++ (w_Sg_ (ad_bc 100) ad_sg tC sg ++ (w_Tr_ (ad_bc 104) ad_tr tC tr ++ (w_Tr_ (ad_bc 105) ad_tu tC tu ++ (w_Ff_ (ad_bc 103) ad_ff tC ff ++ (w_Pl_ (ad_bc 101) ad_pl tC pl ++ (w_Lw_ (ad_bc 102) ad_lw tC lw ++ TL))))))) H) (hf : f_Bc_proved nl nT LS TS FP FS bc sg tr tu ff pl lw = some R) : Met l y_Bc_proved w_Bc_proved rm_Bc_proved (roP (dC, dI) tC H [.ref h_bc]) (roQ H (some (.int R))) 0 0 (fun _ => False) := by
  refine Met.ofW (cc := c_Bc_proved) (maxL := 1) (ret := (some (.boolean))) (by decide) rfl ?_
  intro p e s m args below meth c s₁ B hml hv
  obtain ⟨hav, hH, hK⟩ := hv
  have hx := B.exec
  have hb := B.bytes
  have hr := B.returns
  have hts : ∀ w ∈ gw, w.before args s = true := fun w h => atoms_spec (ws := w_Bc_proved) B.pre w (List.mem_cons_of_mem _ h)
  have hown : s.vm.findClass RX8 = some m.cls := findClass_of_methodNamed B.named
  have hlocks := B.notSynchronized
  subst hH
  refine q_w (R := rm_Bc_proved) (fun Q hQ => ?_)
  refine en_w (av := [.ref h_bc]) hav (Nat.le_of_ble_eq_true rfl) (fun ls hl => ?_)
  have hl : lv_has ls 1 [(0, .ref h_bc)] := hl
  unfold f_Bc_proved at hf
  refine lv_aload_n hx hb d_Bc_proved_0 rfl (lv_at hl 0 rfl) ?_
  refine va_get (D := (dC, dI)) (ci := 8) (v := .ref (ad_bc 101)) (C := RX8) (T := TX8) (N := 12) hx hb hts in_X8 hown hK hP 0 rfl rfl 5 (by decide) (hts _ kF_8_41) (fun _ h9 => h9) rfl d_Bc_proved_1 ?_
  refine va_get (D := (dC, dI)) (ci := 3) (v := .int (pl.1 4)) (C := RX3) (T := TX3) (N := 12) hx hb hts in_X3 hown hK hP 21 rfl rfl 11 (by decide) (hts _ kF_8_147) (fun _ h9 => h9) rfl d_Bc_proved_4 ?_
  refine lv_if_eq (tgt := 31) hx hb d_Bc_proved_7 (by decide) (fun c1 => ?_) (fun c1 => ?_)
  · have hf := op_t hf c1
    refine lv_iconst (v := 0) hx hb d_Bc_proved_31 (by decide) ?_
    obtain rfl := Option.some.inj hf
    subst hQ
    exact W.zret (v := 0) (ty := .boolean) hx hb hr (by decide) (fun t ht hW => ⟨rfl, ht⟩) (fun q h => by cases h) d_Bc_proved_32
  · have hf := op_e hf c1
    refine lv_aload_n hx hb d_Bc_proved_10 rfl (lv_at hl 0 rfl) ?_
    refine va_get (D := (dC, dI)) (ci := 8) (v := .ref (ad_bc 101)) (C := RX8) (T := TX8) (N := 12) hx hb hts in_X8 hown hK hP 0 rfl rfl 5 (by decide) (hts _ kF_8_41) (fun _ h9 => h9) rfl d_Bc_proved_11 ?_
    refine va_get (D := (dC, dI)) (ci := 3) (v := .int (pl.1 3)) (C := RX3) (T := TX3) (N := 12) hx hb hts in_X3 hown hK hP 21 rfl rfl 10 (by decide) (hts _ kF_8_158) (fun _ h9 => h9) rfl d_Bc_proved_14 ?_
    refine lv_aload_n hx hb d_Bc_proved_17 rfl (lv_at hl 0 rfl) ?_
    refine va_get (D := (dC, dI)) (ci := 8) (v := .ref (ad_bc 101)) (C := RX8) (T := TX8) (N := 12) hx hb hts in_X8 hown hK hP 0 rfl rfl 5 (by decide) (hts _ kF_8_41) (fun _ h9 => h9) rfl d_Bc_proved_18 ?_
    refine va_get (D := (dC, dI)) (ci := 3) (v := .int (pl.1 2)) (C := RX3) (T := TX3) (N := 12) hx hb hts in_X3 hown hK hP 21 rfl rfl 9 (by decide) (hts _ kF_8_161) (fun _ h9 => h9) rfl d_Bc_proved_21 ?_
    refine lv_icmp_ne (tgt := 31) hx hb d_Bc_proved_24 (by decide) (fun c2 => ?_) (fun c2 => ?_)
    · have hf := op_e hf c2
      refine lv_iconst (v := 0) hx hb d_Bc_proved_31 (by decide) ?_
      obtain rfl := Option.some.inj hf
      subst hQ
      exact W.zret (v := 0) (ty := .boolean) hx hb hr (by decide) (fun t ht hW => ⟨rfl, ht⟩) (fun q h => by cases h) d_Bc_proved_32
    · have hf := op_t hf c2
      refine lv_iconst (v := 1) hx hb d_Bc_proved_27 (by decide) ?_
      refine lv_goto (tgt := 32) hx hb d_Bc_proved_28 (by decide) ?_
      obtain rfl := Option.some.inj hf
      subst hQ
      exact W.zret (v := 1) (ty := .boolean) hx hb hr (by decide) (fun t ht hW => ⟨rfl, ht⟩) (fun q h => by cases h) d_Bc_proved_32
def f_Bc_pattern (nl : Nat) (nT : Nat → Nat) (LS : Nat → MS) (TS : Nat → MS) (FP : Nat → Bool) (FS : Nat → MS) (bc : MS) (sg : MS) (tr : MS) (tu : MS) (ff : MS) (pl : MS) (lw : MS) (p1 : Int32) (p2 : Int32) : Option (Int32) := (if (pl.1 4) = 0 then some (-1) else (if p1 < 0 then some (-1) else (if p1 < (pl.1 1) then (if p2 = 0 then if ix p1 60 then some ((pl.2.1 3) p1.toNatClampNeg) else none else (if p2 = 1 then if ix p1 60 then some ((pl.2.1 4) p1.toNatClampNeg) else none else (if p2 = 2 then if ix p1 60 then some ((pl.2.1 6) p1.toNatClampNeg) else none else (if 3 ≤ p2 then (f_Pl_lineOfPiece pl p1 (p2 - 3)).bind fun q8 => some q8 else some (-1))))) else some (-1))))
def rm_Bc_pattern : Room := { frames := 1, cells := 0, slots := 0, locals := 24 }
set_option maxHeartbeats 4000000 in
set_option maxRecDepth 100000 in
theorem m_Bc_pattern (l : Launch) (dC : Nat → ClassId) (dI : Nat → Nat → Nat) (tC : Nat → ClassId) (TL : va_W) (nl : Nat) (hL : Nat → Nat) (adL aT : Nat → Nat → Nat) (nT : Nat → Nat) (LS TS : Nat → MS) (FP : Nat → Bool) (hF : Nat → Nat) (adF : Nat → Nat → Nat) (FS : Nat → MS) (rf : Nat → Nat → Option Nat) (h_bc : Nat) (ad_bc : Nat → Nat) (bc : MS) (ad_sg : Nat → Nat) (sg : MS) (ad_tr : Nat → Nat) (tr : MS) (ad_tu : Nat → Nat) (tu : MS) (ad_ff : Nat → Nat) (ff : MS) (ad_pl : Nat → Nat) (pl : MS) (ad_lw : Nat → Nat) (lw : MS) (p1 : Int32) (p2 : Int32) (R : Int32) (H : Heap) (hFM : FM tC TL nl hL adL aT nT LS TS FP hF adF FS rf) (hP : va_P (dC, dI) vwCl (w_Bc_ h_bc ad_bc tC rf bc ++ (w_Sg_ (ad_bc 100) ad_sg tC sg ++ (w_Tr_ (ad_bc 104) ad_tr tC tr ++ (w_Tr_ (ad_bc 105) ad_tu tC tu ++ (w_Ff_ (ad_bc 103) ad_ff tC ff ++ (w_Pl_ (ad_bc 101) ad_pl tC pl ++ (w_Lw_ (ad_bc 102) ad_lw tC lw ++ TL))))))) H) (hf : f_Bc_pattern nl nT LS TS FP FS bc sg tr tu ff pl lw p1 p2 = some R) : Met l y_Bc_pattern w_Bc_pattern rm_Bc_pattern (roP (dC, dI) tC H [.ref h_bc, .int p1, .int p2]) (roQ H (some (.int R))) 0 0 (fun _ => False) := by
  refine Met.ofW (cc := c_Bc_pattern) (maxL := 3) (ret := (some (.int))) (by decide) rfl ?_
  intro p e s m args below meth c s₁ B hml hv
  obtain ⟨hav, hH, hK⟩ := hv
  have hx := B.exec
  have hb := B.bytes
  have hr := B.returns
  have hts : ∀ w ∈ gw, w.before args s = true := fun w h => atoms_spec (ws := w_Bc_pattern) B.pre w (List.mem_cons_of_mem _ h)
  have hown : s.vm.findClass RX8 = some m.cls := findClass_of_methodNamed B.named
  have hlocks := B.notSynchronized
  subst hH
  refine q_w (R := rm_Bc_pattern) (fun Q hQ => ?_)
  refine en_w (av := [.ref h_bc, .int p1, .int p2]) hav (Nat.le_of_ble_eq_true rfl) (fun ls hl => ?_)
  have hl : lv_has ls 3 [(0, .ref h_bc), (1, .int p1), (2, .int p2)] := hl
  unfold f_Bc_pattern at hf
  refine lv_aload_n hx hb d_Bc_pattern_0 rfl (lv_at hl 0 rfl) ?_
  refine va_get (D := (dC, dI)) (ci := 8) (v := .ref (ad_bc 101)) (C := RX8) (T := TX8) (N := 12) hx hb hts in_X8 hown hK hP 0 rfl rfl 5 (by decide) (hts _ kF_8_41) (fun _ h9 => h9) rfl d_Bc_pattern_1 ?_
  refine va_get (D := (dC, dI)) (ci := 3) (v := .int (pl.1 4)) (C := RX3) (T := TX3) (N := 12) hx hb hts in_X3 hown hK hP 21 rfl rfl 11 (by decide) (hts _ kF_8_147) (fun _ h9 => h9) rfl d_Bc_pattern_4 ?_
  refine lv_if_eq (tgt := 25) hx hb d_Bc_pattern_7 (by decide) (fun c1 => ?_) (fun c1 => ?_)
  · have hf := op_t hf c1
    refine lv_iconst (v := (-1)) hx hb d_Bc_pattern_25 (by decide) ?_
    obtain rfl := Option.some.inj hf
    subst hQ
    exact W.iret (v := (-1)) hx hb hr (fun t ht hW => ⟨rfl, ht⟩) (fun q h => by cases h) d_Bc_pattern_26
  · have hf := op_e hf c1
    refine lv_iload_n hx hb d_Bc_pattern_10 rfl (lv_at hl 1 rfl) ?_
    refine lv_if_lt (tgt := 25) hx hb d_Bc_pattern_11 (by decide) (fun c2 => ?_) (fun c2 => ?_)
    · have hf := op_t hf c2
      refine lv_iconst (v := (-1)) hx hb d_Bc_pattern_25 (by decide) ?_
      obtain rfl := Option.some.inj hf
      subst hQ
      exact W.iret (v := (-1)) hx hb hr (fun t ht hW => ⟨rfl, ht⟩) (fun q h => by cases h) d_Bc_pattern_26
    · have hf := op_e hf c2
      refine lv_iload_n hx hb d_Bc_pattern_14 rfl (lv_at hl 1 rfl) ?_
      refine lv_aload_n hx hb d_Bc_pattern_15 rfl (lv_at hl 0 rfl) ?_
      refine va_get (D := (dC, dI)) (ci := 8) (v := .ref (ad_bc 101)) (C := RX8) (T := TX8) (N := 12) hx hb hts in_X8 hown hK hP 0 rfl rfl 5 (by decide) (hts _ kF_8_41) (fun _ h9 => h9) rfl d_Bc_pattern_16 ?_
      refine va_get (D := (dC, dI)) (ci := 3) (v := .int (pl.1 1)) (C := RX3) (T := TX3) (N := 12) hx hb hts in_X3 hown hK hP 21 rfl rfl 8 (by decide) (hts _ kF_8_151) (fun _ h9 => h9) rfl d_Bc_pattern_19 ?_
      refine lv_icmp_lt (tgt := 27) hx hb d_Bc_pattern_22 (by decide) (fun c3 => ?_) (fun c3 => ?_)
      · have hf := op_t hf c3
        refine lv_iload_n hx hb d_Bc_pattern_27 rfl (lv_at hl 2 rfl) ?_
        by_cases c9 : p2 = 0
        · refine lv_tableIn (tgt := 56) (off := 28) hx hb d_Bc_pattern_28 (by rw [c9]; decide) (by rw [c9]; decide) (by rw [c9]; decide) (by decide) ?_
          have hf := op_t hf c9
          refine lv_aload_n hx hb d_Bc_pattern_56 rfl (lv_at hl 0 rfl) ?_
          refine va_get (D := (dC, dI)) (ci := 8) (v := .ref (ad_bc 101)) (C := RX8) (T := TX8) (N := 12) hx hb hts in_X8 hown hK hP 0 rfl rfl 5 (by decide) (hts _ kF_8_41) (fun _ h9 => h9) rfl d_Bc_pattern_57 ?_
          refine va_get (D := (dC, dI)) (ci := 3) (v := .ref (ad_pl 3)) (C := RX3) (T := TX3) (N := 12) hx hb hts in_X3 hown hK hP 21 rfl rfl 3 (by decide) (hts _ kF_8_164) (fun _ h9 => h9) rfl d_Bc_pattern_60 ?_
          refine lv_iload_n hx hb d_Bc_pattern_63 rfl (lv_at hl 1 rfl) ?_
          obtain ⟨hi4, hf⟩ := op_if hf
          refine va_iald (f := pl.2.1 3) hx hb hK hP 25 0 rfl rfl (ix_in hi4) d_Bc_pattern_64 ?_
          obtain rfl := Option.some.inj hf
          subst hQ
          exact W.iret (v := (pl.2.1 3) p1.toNatClampNeg) hx hb hr (fun t ht hW => ⟨rfl, ht⟩) (fun q h => by cases h) d_Bc_pattern_65
        have hf := op_e hf c9
        by_cases c10 : p2 = 1
        · refine lv_tableIn (tgt := 66) (off := 38) hx hb d_Bc_pattern_28 (by rw [c10]; decide) (by rw [c10]; decide) (by rw [c10]; decide) (by decide) ?_
          have hf := op_t hf c10
          refine lv_aload_n hx hb d_Bc_pattern_66 rfl (lv_at hl 0 rfl) ?_
          refine va_get (D := (dC, dI)) (ci := 8) (v := .ref (ad_bc 101)) (C := RX8) (T := TX8) (N := 12) hx hb hts in_X8 hown hK hP 0 rfl rfl 5 (by decide) (hts _ kF_8_41) (fun _ h9 => h9) rfl d_Bc_pattern_67 ?_
          refine va_get (D := (dC, dI)) (ci := 3) (v := .ref (ad_pl 4)) (C := RX3) (T := TX3) (N := 12) hx hb hts in_X3 hown hK hP 21 rfl rfl 4 (by decide) (hts _ kF_8_167) (fun _ h9 => h9) rfl d_Bc_pattern_70 ?_
          refine lv_iload_n hx hb d_Bc_pattern_73 rfl (lv_at hl 1 rfl) ?_
          obtain ⟨hi5, hf⟩ := op_if hf
          refine va_iald (f := pl.2.1 4) hx hb hK hP 26 0 rfl rfl (ix_in hi5) d_Bc_pattern_74 ?_
          obtain rfl := Option.some.inj hf
          subst hQ
          exact W.iret (v := (pl.2.1 4) p1.toNatClampNeg) hx hb hr (fun t ht hW => ⟨rfl, ht⟩) (fun q h => by cases h) d_Bc_pattern_75
        have hf := op_e hf c10
        by_cases c11 : p2 = 2
        · refine lv_tableIn (tgt := 76) (off := 48) hx hb d_Bc_pattern_28 (by rw [c11]; decide) (by rw [c11]; decide) (by rw [c11]; decide) (by decide) ?_
          have hf := op_t hf c11
          refine lv_aload_n hx hb d_Bc_pattern_76 rfl (lv_at hl 0 rfl) ?_
          refine va_get (D := (dC, dI)) (ci := 8) (v := .ref (ad_bc 101)) (C := RX8) (T := TX8) (N := 12) hx hb hts in_X8 hown hK hP 0 rfl rfl 5 (by decide) (hts _ kF_8_41) (fun _ h9 => h9) rfl d_Bc_pattern_77 ?_
          refine va_get (D := (dC, dI)) (ci := 3) (v := .ref (ad_pl 6)) (C := RX3) (T := TX3) (N := 12) hx hb hts in_X3 hown hK hP 21 rfl rfl 6 (by decide) (hts _ kF_8_170) (fun _ h9 => h9) rfl d_Bc_pattern_80 ?_
          refine lv_iload_n hx hb d_Bc_pattern_83 rfl (lv_at hl 1 rfl) ?_
          obtain ⟨hi6, hf⟩ := op_if hf
          refine va_iald (f := pl.2.1 6) hx hb hK hP 28 0 rfl rfl (ix_in hi6) d_Bc_pattern_84 ?_
          obtain rfl := Option.some.inj hf
          subst hQ
          exact W.iret (v := (pl.2.1 6) p1.toNatClampNeg) hx hb hr (fun t ht hW => ⟨rfl, ht⟩) (fun q h => by cases h) d_Bc_pattern_85
        have hf := op_e hf c11
        have nc9 := lv_neT c9 (a := 0) (by decide)
        have nc10 := lv_neT c10 (a := 1) (by decide)
        have nc11 := lv_neT c11 (a := 2) (by decide)
        refine lv_tableOut (tgt := 86) hx hb d_Bc_pattern_28 (by omega) (by decide) ?_
        refine lv_iload_n hx hb d_Bc_pattern_86 rfl (lv_at hl 2 rfl) ?_
        refine lv_iconst (v := 3) hx hb d_Bc_pattern_87 (by decide) ?_
        refine lv_icmp_ge (tgt := 95) hx hb d_Bc_pattern_88 (by decide) (fun c7 => ?_) (fun c7 => ?_)
        · have hf := op_t hf c7
          refine lv_aload_n hx hb d_Bc_pattern_95 rfl (lv_at hl 0 rfl) ?_
          refine va_get (D := (dC, dI)) (ci := 8) (v := .ref (ad_bc 101)) (C := RX8) (T := TX8) (N := 12) hx hb hts in_X8 hown hK hP 0 rfl rfl 5 (by decide) (hts _ kF_8_41) (fun _ h9 => h9) rfl d_Bc_pattern_96 ?_
          refine lv_iload_n hx hb d_Bc_pattern_99 rfl (lv_at hl 1 rfl) ?_
          refine lv_iload_n hx hb d_Bc_pattern_100 rfl (lv_at hl 2 rfl) ?_
          refine lv_iconst (v := 3) hx hb d_Bc_pattern_101 (by decide) ?_
          refine lv_isub hx hb d_Bc_pattern_102 ?_
          obtain ⟨q8, hq8, hf⟩ := op_b hf
          refine ro_go rfl (va_runV (As := [.int p1, .int (p2 - 3)]) (rest := []) ⟨hx, hb, hml, hown, hts⟩ (m_Pl_lineOfPiece l dC dI tC (ad_bc 101) ad_pl pl p1 (p2 - 3) q8 _ (hP.sub (ws' := (w_Pl_ (ad_bc 101) ad_pl tC pl)) [21, 22, 23, 24, 25, 26, 27, 28] rfl) hq8) (cwV 2 hts (gd_V kM_8_173 kI_Pl_lineOfPiece kV_Pl_lineOfPiece kZ_3 kC_Pl_lineOfPiece) rfl rfl rfl (by decide +kernel) ⟨(Nat.le_of_ble_eq_true rfl), (Nat.le_of_ble_eq_true rfl)⟩) ⟨ro_blind, va_recv hK hP (ci := 3) (q0 := 21) rfl rfl, ro_pre hK⟩ rfl rfl hl.1 rfl (lv_room (Nat.le_of_ble_eq_true rfl)) d_Bc_pattern_103 ⟨(Nat.le_of_ble_eq_true rfl), (Nat.le_of_ble_eq_true rfl)⟩) ?_
          refine W.eq (g2 := F0 m 106 ls [.int q8]) rfl ?_
          obtain rfl := Option.some.inj hf
          subst hQ
          exact W.iret (v := q8) hx hb hr (fun t ht hW => ⟨rfl, ht⟩) (fun q h => by cases h) d_Bc_pattern_106
        · have hf := op_e hf c7
          refine lv_iconst (v := (-1)) hx hb d_Bc_pattern_91 (by decide) ?_
          refine lv_goto (tgt := 106) hx hb d_Bc_pattern_92 (by decide) ?_
          obtain rfl := Option.some.inj hf
          subst hQ
          exact W.iret (v := (-1)) hx hb hr (fun t ht hW => ⟨rfl, ht⟩) (fun q h => by cases h) d_Bc_pattern_106
      · have hf := op_e hf c3
        refine lv_iconst (v := (-1)) hx hb d_Bc_pattern_25 (by decide) ?_
        obtain rfl := Option.some.inj hf
        subst hQ
        exact W.iret (v := (-1)) hx hb hr (fun t ht hW => ⟨rfl, ht⟩) (fun q h => by cases h) d_Bc_pattern_26
def f_Bc_command (nl : Nat) (nT : Nat → Nat) (LS : Nat → MS) (TS : Nat → MS) (FP : Nat → Bool) (FS : Nat → MS) (bc : MS) (sg : MS) (tr : MS) (tu : MS) (ff : MS) (pl : MS) (lw : MS) (p1 : Int32) (p2 : Int32) : Option (Int32 × MS × MS × MS × MS × MS × MS × MS) := (f_Bc_lineAt nl nT LS TS FP FS bc sg tr tu ff pl lw p1).bind fun q1 => q1.elim (some ((-1), bc, sg, tr, tu, ff, pl, lw)) (fun i2 => (f_Ln_allLegsTold (LS i2) (nT i2) (TS i2)).bind fun q3 => (if q3 = 0 then some ((-1), bc, sg, tr, tu, ff, pl, lw) else (if 0 ≤ p2 then (f_Tr_follow tr (LS i2) (nT i2) (TS i2)).bind fun q7 => (some (p2 / 2) : Option Int32).bind fun v8 => (if v8 < (q7.2.1 0) then (if (p2 - p2 / 2 * 2) = 0 then if ix v8 11 then some ((q7.2.2.1 2) v8.toNatClampNeg, bc, sg, q7.2, tu, ff, pl, lw) else none else if ix v8 11 then some ((q7.2.2.1 3) v8.toNatClampNeg, bc, sg, q7.2, tu, ff, pl, lw) else none) else some ((-1), bc, sg, q7.2, tu, ff, pl, lw)) else some ((-1), bc, sg, tr, tu, ff, pl, lw))))
def rm_Bc_command : Room := { frames := 2, cells := 0, slots := 0, locals := 50 }
set_option maxHeartbeats 4000000 in
set_option maxRecDepth 100000 in
theorem m_Bc_command (l : Launch) (dC : Nat → ClassId) (dI : Nat → Nat → Nat) (tC : Nat → ClassId) (TL : va_W) (nl : Nat) (hL : Nat → Nat) (adL aT : Nat → Nat → Nat) (nT : Nat → Nat) (LS TS : Nat → MS) (FP : Nat → Bool) (hF : Nat → Nat) (adF : Nat → Nat → Nat) (FS : Nat → MS) (rf : Nat → Nat → Option Nat) (h_bc : Nat) (ad_bc : Nat → Nat) (bc : MS) (ad_sg : Nat → Nat) (sg : MS) (ad_tr : Nat → Nat) (tr : MS) (ad_tu : Nat → Nat) (tu : MS) (ad_ff : Nat → Nat) (ff : MS) (ad_pl : Nat → Nat) (pl : MS) (ad_lw : Nat → Nat) (lw : MS) (p1 : Int32) (p2 : Int32) (R : Int32 × MS × MS × MS × MS × MS × MS × MS) (hFM : FM tC TL nl hL adL aT nT LS TS FP hF adF FS rf) (hf : f_Bc_command nl nT LS TS FP FS bc sg tr tu ff pl lw p1 p2 = some R) (sz : Nat) : Met l y_Bc_command w_Bc_command rm_Bc_command (wrP (dC, dI) tC (w_Bc_ h_bc ad_bc tC rf bc ++ (w_Sg_ (ad_bc 100) ad_sg tC sg ++ (w_Tr_ (ad_bc 104) ad_tr tC tr ++ (w_Tr_ (ad_bc 105) ad_tu tC tu ++ (w_Ff_ (ad_bc 103) ad_ff tC ff ++ (w_Pl_ (ad_bc 101) ad_pl tC pl ++ (w_Lw_ (ad_bc 102) ad_lw tC lw ++ TL))))))) sz [.ref h_bc, .int p1, .int p2]) (wrQ (dC, dI) (w_Bc_ h_bc ad_bc tC rf bc ++ (w_Sg_ (ad_bc 100) ad_sg tC sg ++ (w_Tr_ (ad_bc 104) ad_tr tC tr ++ (w_Tr_ (ad_bc 105) ad_tu tC tu ++ (w_Ff_ (ad_bc 103) ad_ff tC ff ++ (w_Pl_ (ad_bc 101) ad_pl tC pl ++ (w_Lw_ (ad_bc 102) ad_lw tC lw ++ TL))))))) sz (fun r w => r = (some (.int R.1)) ∧ w = (w_Bc_ h_bc ad_bc tC rf R.2.1 ++ (w_Sg_ (ad_bc 100) ad_sg tC R.2.2.1 ++ (w_Tr_ (ad_bc 104) ad_tr tC R.2.2.2.1 ++ (w_Tr_ (ad_bc 105) ad_tu tC R.2.2.2.2.1 ++ (w_Ff_ (ad_bc 103) ad_ff tC R.2.2.2.2.2.1 ++ (w_Pl_ (ad_bc 101) ad_pl tC R.2.2.2.2.2.2.1 ++ (w_Lw_ (ad_bc 102) ad_lw tC R.2.2.2.2.2.2.2 ++ TL))))))))) 0 0 (va_A (w_Bc_ h_bc ad_bc tC rf bc ++ (w_Sg_ (ad_bc 100) ad_sg tC sg ++ (w_Tr_ (ad_bc 104) ad_tr tC tr ++ (w_Tr_ (ad_bc 105) ad_tu tC tu ++ (w_Ff_ (ad_bc 103) ad_ff tC ff ++ (w_Pl_ (ad_bc 101) ad_pl tC pl ++ (w_Lw_ (ad_bc 102) ad_lw tC lw ++ TL))))))) sz) := by
  refine Met.ofW (cc := c_Bc_command) (maxL := 5) (ret := (some (.int))) (by decide) rfl ?_
  intro p e s m args below meth c s₁ B hml hv
  obtain ⟨hav, hsz, hP, hK, hD0⟩ := hv
  have hx := B.exec
  have hb := B.bytes
  have hr := B.returns
  have hts : ∀ w ∈ gw, w.before args s = true := fun w h => atoms_spec (ws := w_Bc_command) B.pre w (List.mem_cons_of_mem _ h)
  have hown : s.vm.findClass RX8 = some m.cls := findClass_of_methodNamed B.named
  have hlocks := B.notSynchronized
  subst hsz
  have hD := hD0.self (sz := s.heap.size)
  obtain ⟨A, hAe⟩ : ∃ z, z = va_A (w_Bc_ h_bc ad_bc tC rf bc ++ (w_Sg_ (ad_bc 100) ad_sg tC sg ++ (w_Tr_ (ad_bc 104) ad_tr tC tr ++ (w_Tr_ (ad_bc 105) ad_tu tC tu ++ (w_Ff_ (ad_bc 103) ad_ff tC ff ++ (w_Pl_ (ad_bc 101) ad_pl tC pl ++ (w_Lw_ (ad_bc 102) ad_lw tC lw ++ TL))))))) s.heap.size := ⟨_, rfl⟩
  rw [← hAe] at hD
  have hA : ∀ q : Nat, s.heap.size ≤ q → A q := fun q h => by rw [hAe]; exact Or.inr h
  have hS : va_S A s.heap s.heap [] := va_S.rf
  refine q_w (R := rm_Bc_command) (fun Q hQ => ?_)
  refine en_w (av := [.ref h_bc, .int p1, .int p2]) hav (Nat.le_of_ble_eq_true rfl) (fun ls hl => ?_)
  have hl : lv_has ls 5 [(0, .ref h_bc), (1, .int p1), (2, .int p2)] := hl
  unfold f_Bc_command at hf
  refine lv_aload_n hx hb d_Bc_command_0 rfl (lv_at hl 0 rfl) ?_
  refine lv_iload_n hx hb d_Bc_command_1 rfl (lv_at hl 1 rfl) ?_
  obtain ⟨q1, hq1, hf⟩ := op_b hf
  refine ro_go rfl (va_runV (As := [.int p1]) (rest := []) ⟨hx, hb, hml, hown, hts⟩ (m_Bc_lineAt l dC dI tC TL nl hL adL aT nT LS TS FP hF adF FS rf h_bc ad_bc bc ad_sg sg ad_tr tr ad_tu tu ad_ff ff ad_pl pl ad_lw lw p1  q1 _ hFM hP hq1) (cwV 1 hts (gd_V kM_8_102 kI_Bc_lineAt kV_Bc_lineAt kZ_8 kC_Bc_lineAt) rfl rfl rfl (by decide +kernel) ⟨(Nat.le_of_ble_eq_true rfl), (Nat.le_of_ble_eq_true rfl)⟩) ⟨ro_blind, va_recv hK hP (ci := 8) (q0 := 0) rfl rfl, ro_pre hK⟩ rfl rfl hl.1 rfl (lv_room (Nat.le_of_ble_eq_true rfl)) d_Bc_command_2 ⟨(Nat.le_of_ble_eq_true rfl), (Nat.le_of_ble_eq_true rfl)⟩) ?_
  have hltq1 := lineAt_lt hq1
  rcases q1 with _ | i2
  · have hf := oe_n hf
    refine W.eq (g2 := F0 m 5 ls [.null]) rfl ?_
    refine lv_astore_nN (lv' := [(3, .null), (0, .ref h_bc), (1, .int p1), (2, .int p2)]) hx hb d_Bc_command_5 rfl hl (by decide) rfl (fun ls hl => ?_)
    refine lv_aload_nN hx hb d_Bc_command_6 rfl (lv_at hl 0 rfl) ?_
    refine lv_ifnullN (tgt := 21) hx hb d_Bc_command_7 (by decide) ?_
    refine lv_iconst (v := (-1)) hx hb d_Bc_command_21 (by decide) ?_
    obtain rfl := Option.some.inj hf
    subst hQ
    subst hAe
    exact W.iret (v := (-1)) hx hb hr (fun t ht hW => ⟨⟨_, _, rfl, ⟨rfl, rfl⟩, by rw [ht]; exact hP, hD⟩, hS.F ht⟩) hS.2.2 d_Bc_command_22
  · have hf := oe_s hf
    have hi2 := hltq1 i2 rfl
    refine W.eq (g2 := F0 m 5 ls [.ref (hL i2)]) rfl ?_
    refine lv_astore_n (lv' := [(3, .ref (hL i2)), (0, .ref h_bc), (1, .int p1), (2, .int p2)]) hx hb d_Bc_command_5 rfl hl (by decide) rfl (fun ls hl => ?_)
    refine lv_aload_n hx hb d_Bc_command_6 rfl (lv_at hl 0 rfl) ?_
    refine lv_ifnull hx hb d_Bc_command_7 ?_
    refine lv_aload_n hx hb d_Bc_command_10 rfl (lv_at hl 0 rfl) ?_
    obtain ⟨q3, hq3, hf⟩ := op_b hf
    obtain ⟨k4, hk4⟩ := List.getElem?_of_mem (List.mem_append_right _ (List.mem_append_right _ (List.mem_append_right _ (List.mem_append_right _ (List.mem_append_right _ (List.mem_append_right _ (List.mem_append_right _ ((hFM.1 i2 hi2) _ (List.mem_of_getElem? (i := 0) rfl)))))))))
    refine ro_go rfl (va_runV (As := []) (rest := []) ⟨hx, hb, hml, hown, hts⟩ (m_Ln_allLegsTold l dC dI tC (hL i2) (adL i2) (LS i2) (aT i2) (nT i2) (TS i2) q3 _ ((va_P_in hP (fun q h => (List.mem_append_right _ (List.mem_append_right _ (List.mem_append_right _ (List.mem_append_right _ (List.mem_append_right _ (List.mem_append_right _ (List.mem_append_right _ ((hFM.1 i2 hi2) q h)))))))))).app (va_P_in hP (fun q h => (List.mem_append_right _ (List.mem_append_right _ (List.mem_append_right _ (List.mem_append_right _ (List.mem_append_right _ (List.mem_append_right _ (List.mem_append_right _ ((hFM.2.1 i2 hi2) q h))))))))))) hq3) (cwV 0 hts (gd_V kM_8_193 kI_Ln_allLegsTold kV_Ln_allLegsTold kZ_2 kC_Ln_allLegsTold) rfl rfl rfl (by decide +kernel) ⟨(Nat.le_of_ble_eq_true rfl), (Nat.le_of_ble_eq_true rfl)⟩) ⟨ro_blind, va_recv hK hP (ci := 2) (q0 := k4) rfl hk4, ro_pre hK⟩ rfl rfl hl.1 rfl (lv_room (Nat.le_of_ble_eq_true rfl)) d_Bc_command_11 ⟨(Nat.le_of_ble_eq_true rfl), (Nat.le_of_ble_eq_true rfl)⟩) ?_
    refine W.eq (g2 := F0 m 14 ls [.int q3]) rfl ?_
    refine lv_if_eq (tgt := 21) hx hb d_Bc_command_14 (by decide) (fun c5 => ?_) (fun c5 => ?_)
    · have hf := op_t hf c5
      refine lv_iconst (v := (-1)) hx hb d_Bc_command_21 (by decide) ?_
      obtain rfl := Option.some.inj hf
      subst hQ
      subst hAe
      exact W.iret (v := (-1)) hx hb hr (fun t ht hW => ⟨⟨_, _, rfl, ⟨rfl, rfl⟩, by rw [ht]; exact hP, hD⟩, hS.F ht⟩) hS.2.2 d_Bc_command_22
    · have hf := op_e hf c5
      refine lv_iload_n hx hb d_Bc_command_17 rfl (lv_at hl 3 rfl) ?_
      refine lv_if_ge (tgt := 23) hx hb d_Bc_command_18 (by decide) (fun c6 => ?_) (fun c6 => ?_)
      · have hf := op_t hf c6
        refine lv_aload_n hx hb d_Bc_command_23 rfl (lv_at hl 1 rfl) ?_
        refine va_get (D := (dC, dI)) (ci := 8) (v := .ref (ad_bc 104)) (C := RX8) (T := TX8) (N := 12) hx hb hts in_X8 hown hK hP 0 rfl rfl 8 (by decide) (hts _ kF_8_62) (fun _ h9 => h9) rfl d_Bc_command_24 ?_
        refine lv_aload_n hx hb d_Bc_command_27 rfl (lv_at hl 0 rfl) ?_
        obtain ⟨q7, hq7, hf⟩ := op_b hf
        have hPx := cv_P (ws' := (w_Bc_ h_bc ad_bc tC rf bc ++ w_Sg_ (ad_bc 100) ad_sg tC sg) ++ ((w_Tr_ (ad_bc 104) ad_tr tC tr) ++ (w_Tr_ (ad_bc 105) ad_tu tC tu ++ (w_Ff_ (ad_bc 103) ad_ff tC ff ++ (w_Pl_ (ad_bc 101) ad_pl tC pl ++ (w_Lw_ (ad_bc 102) ad_lw tC lw ++ TL)))))) hP (by simp only [List.append_assoc, List.nil_append])
        have hDx := cv_D (ws' := (w_Bc_ h_bc ad_bc tC rf bc ++ w_Sg_ (ad_bc 100) ad_sg tC sg) ++ ((w_Tr_ (ad_bc 104) ad_tr tC tr) ++ (w_Tr_ (ad_bc 105) ad_tu tC tu ++ (w_Ff_ (ad_bc 103) ad_ff tC ff ++ (w_Pl_ (ad_bc 101) ad_pl tC pl ++ (w_Lw_ (ad_bc 102) ad_lw tC lw ++ TL)))))) hD (by simp only [List.append_assoc, List.nil_append])
        have hro : ∀ q ∈ (w_Ln_ (hL i2) (adL i2) tC (LS i2) ++ w_Sh_ (adL i2 100) (aT i2) tC (nT i2) (TS i2)), q ∈ (w_Tr_ (ad_bc 105) ad_tu tC tu ++ (w_Ff_ (ad_bc 103) ad_ff tC ff ++ (w_Pl_ (ad_bc 101) ad_pl tC pl ++ (w_Lw_ (ad_bc 102) ad_lw tC lw ++ TL)))) := fun q h => (fun h9 => (List.mem_append_right _ (List.mem_append_right _ (List.mem_append_right _ (List.mem_append_right _ h9))))) ((show ∀ q ∈ (w_Ln_ (hL i2) (adL i2) tC (LS i2) ++ w_Sh_ (adL i2 100) (aT i2) tC (nT i2) (TS i2)), q ∈ TL from fun q h => (List.mem_append.mp h).elim (fun h => (hFM.1 i2 hi2) q h) (fun h => (hFM.2.1 i2 hi2) q h)) q h)
        obtain ⟨hPc, hDc, hFc⟩ := bk_cut hPx hDx hS hA hro ((hFM.2.2.2.2.2.2.1 i2 hi2))
        refine wr_go (va_runV (As := [.ref (hL i2)]) (rest := []) ⟨hx, hb, hml, hown, hts⟩ (m_Tr_follow l dC dI tC (ad_bc 104) ad_tr tr (hL i2) (adL i2) (LS i2) (aT i2) (nT i2) (TS i2) q7 hq7 _) (cwV 1 hts (gd_V kM_8_197 kI_Tr_follow kV_Tr_follow kZ_7 kC_Tr_follow) rfl rfl rfl (by decide +kernel) ⟨(Nat.le_of_ble_eq_true rfl), (Nat.le_of_ble_eq_true rfl)⟩) ⟨wr_blind, va_recv hK hP (ci := 7) (q0 := 7) rfl rfl, wr_pre hK hPc hDc⟩ rfl rfl hl.1 rfl (lv_room (Nat.le_of_ble_eq_true rfl)) d_Bc_command_28 ⟨(Nat.le_of_ble_eq_true rfl), (Nat.le_of_ble_eq_true rfl)⟩) hS hFc (fun r w1 H1 locs hw hP1 hD1 hk1 hS => ?_)
        obtain ⟨rfl, rfl⟩ := hw
        obtain ⟨hP, hD⟩ := bk_join (B1 := (w_Tr_ (ad_bc 104) ad_tr tC q7.2)) hPx hDx hro hk1 hP1 rfl
        clear hP1 hD1 hk1 hPc hDc hFc hPx hDx hro
        have hP := cv_P (ws' := (w_Bc_ h_bc ad_bc tC rf bc ++ (w_Sg_ (ad_bc 100) ad_sg tC sg ++ (w_Tr_ (ad_bc 104) ad_tr tC q7.2 ++ (w_Tr_ (ad_bc 105) ad_tu tC tu ++ (w_Ff_ (ad_bc 103) ad_ff tC ff ++ (w_Pl_ (ad_bc 101) ad_pl tC pl ++ (w_Lw_ (ad_bc 102) ad_lw tC lw ++ TL)))))))) hP (by simp only [List.append_assoc, List.nil_append])
        have hD := cv_D (ws' := (w_Bc_ h_bc ad_bc tC rf bc ++ (w_Sg_ (ad_bc 100) ad_sg tC sg ++ (w_Tr_ (ad_bc 104) ad_tr tC q7.2 ++ (w_Tr_ (ad_bc 105) ad_tu tC tu ++ (w_Ff_ (ad_bc 103) ad_ff tC ff ++ (w_Pl_ (ad_bc 101) ad_pl tC pl ++ (w_Lw_ (ad_bc 102) ad_lw tC lw ++ TL)))))))) hD (by simp only [List.append_assoc, List.nil_append])
        refine W.eq (g2 := F0 m 31 ls []) rfl ?_
        refine lv_iload_n hx hb d_Bc_command_31 rfl (lv_at hl 3 rfl) ?_
        refine lv_iconst (v := 2) hx hb d_Bc_command_32 (by decide) ?_
        refine lv_idiv hx hb d_Bc_command_33 (by decide) ?_
        obtain ⟨v8, hv8, hf⟩ := op_b hf
        refine rw_i (y := v8) (Option.some.inj hv8) ?_
        refine lv_istore (lv' := [(4, .int v8), (3, .ref (hL i2)), (0, .ref h_bc), (1, .int p1), (2, .int p2)]) hx hb d_Bc_command_34 hl (by decide) rfl (fun ls hl => ?_)
        refine lv_iload hx hb d_Bc_command_36 (lv_at hl 0 rfl) ?_
        refine lv_aload_n hx hb d_Bc_command_38 rfl (lv_at hl 2 rfl) ?_
        refine va_get (D := (dC, dI)) (ci := 8) (v := .ref (ad_bc 104)) (C := RX8) (T := TX8) (N := 12) hx hb hts in_X8 hown hK hP 0 rfl rfl 8 (by decide) (hts _ kF_8_62) (fun _ h9 => h9) rfl d_Bc_command_39 ?_
        refine va_get (D := (dC, dI)) (ci := 7) (v := .int (q7.2.1 0)) (C := RX7) (T := TX7) (N := 8) hx hb hts in_X7 hown hK hP 7 rfl rfl 5 (by decide) (hts _ kF_8_201) (fun _ h9 => h9) rfl d_Bc_command_42 ?_
        refine lv_icmp_lt (tgt := 50) hx hb d_Bc_command_45 (by decide) (fun c9 => ?_) (fun c9 => ?_)
        · have hf := op_t hf c9
          refine lv_iload_n hx hb d_Bc_command_50 rfl (lv_at hl 4 rfl) ?_
          refine lv_iconst (v := 2) hx hb d_Bc_command_51 (by decide) ?_
          refine lv_irem hx hb d_Bc_command_52 (by decide) ?_
          refine lv_if_ne (tgt := 69) hx hb d_Bc_command_53 (by decide) (fun c10 => ?_) (fun c10 => ?_)
          · have hf := op_e hf c10
            refine lv_aload_n hx hb d_Bc_command_69 rfl (lv_at hl 2 rfl) ?_
            refine va_get (D := (dC, dI)) (ci := 8) (v := .ref (ad_bc 104)) (C := RX8) (T := TX8) (N := 12) hx hb hts in_X8 hown hK hP 0 rfl rfl 8 (by decide) (hts _ kF_8_62) (fun _ h9 => h9) rfl d_Bc_command_70 ?_
            refine va_get (D := (dC, dI)) (ci := 7) (v := .ref (ad_tr 3)) (C := RX7) (T := TX7) (N := 8) hx hb hts in_X7 hown hK hP 7 rfl rfl 3 (by decide) (hts _ kF_8_207) (fun _ h9 => h9) rfl d_Bc_command_73 ?_
            refine lv_iload hx hb d_Bc_command_76 (lv_at hl 0 rfl) ?_
            obtain ⟨hi12, hf⟩ := op_if hf
            refine va_iald (f := q7.2.2.1 3) hx hb hK hP 11 0 rfl rfl (ix_in hi12) d_Bc_command_78 ?_
            obtain rfl := Option.some.inj hf
            subst hQ
            subst hAe
            exact W.iret (v := (q7.2.2.1 3) v8.toNatClampNeg) hx hb hr (fun t ht hW => ⟨⟨_, _, rfl, ⟨rfl, rfl⟩, by rw [ht]; exact hP, hD⟩, hS.F ht⟩) hS.2.2 d_Bc_command_79
          · have hf := op_t hf c10
            refine lv_aload_n hx hb d_Bc_command_56 rfl (lv_at hl 2 rfl) ?_
            refine va_get (D := (dC, dI)) (ci := 8) (v := .ref (ad_bc 104)) (C := RX8) (T := TX8) (N := 12) hx hb hts in_X8 hown hK hP 0 rfl rfl 8 (by decide) (hts _ kF_8_62) (fun _ h9 => h9) rfl d_Bc_command_57 ?_
            refine va_get (D := (dC, dI)) (ci := 7) (v := .ref (ad_tr 2)) (C := RX7) (T := TX7) (N := 8) hx hb hts in_X7 hown hK hP 7 rfl rfl 2 (by decide) (hts _ kF_8_204) (fun _ h9 => h9) rfl d_Bc_command_60 ?_
            refine lv_iload hx hb d_Bc_command_63 (lv_at hl 0 rfl) ?_
            obtain ⟨hi11, hf⟩ := op_if hf
            refine va_iald (f := q7.2.2.1 2) hx hb hK hP 10 0 rfl rfl (ix_in hi11) d_Bc_command_65 ?_
            refine lv_goto (tgt := 79) hx hb d_Bc_command_66 (by decide) ?_
            obtain rfl := Option.some.inj hf
            subst hQ
            subst hAe
            exact W.iret (v := (q7.2.2.1 2) v8.toNatClampNeg) hx hb hr (fun t ht hW => ⟨⟨_, _, rfl, ⟨rfl, rfl⟩, by rw [ht]; exact hP, hD⟩, hS.F ht⟩) hS.2.2 d_Bc_command_79
        · have hf := op_e hf c9
          refine lv_iconst (v := (-1)) hx hb d_Bc_command_48 (by decide) ?_
          obtain rfl := Option.some.inj hf
          subst hQ
          subst hAe
          exact W.iret (v := (-1)) hx hb hr (fun t ht hW => ⟨⟨_, _, rfl, ⟨rfl, rfl⟩, by rw [ht]; exact hP, hD⟩, hS.F ht⟩) hS.2.2 d_Bc_command_49
      · have hf := op_e hf c6
        refine lv_iconst (v := (-1)) hx hb d_Bc_command_21 (by decide) ?_
        obtain rfl := Option.some.inj hf
        subst hQ
        subst hAe
        exact W.iret (v := (-1)) hx hb hr (fun t ht hW => ⟨⟨_, _, rfl, ⟨rfl, rfl⟩, by rw [ht]; exact hP, hD⟩, hS.F ht⟩) hS.2.2 d_Bc_command_22
def f_Bc_clash (nl : Nat) (nT : Nat → Nat) (LS : Nat → MS) (TS : Nat → MS) (FP : Nat → Bool) (FS : Nat → MS) (bc : MS) (sg : MS) (tr : MS) (tu : MS) (ff : MS) (pl : MS) (lw : MS) (p1 : Int32) (p2 : Int32) : Option (Int32 × MS × MS × MS × MS × MS × MS × MS) := (f_Bc_lineAt nl nT LS TS FP FS bc sg tr tu ff pl lw p1).bind fun q1 => q1.elim ((f_Bc_lineAt nl nT LS TS FP FS bc sg tr tu ff pl lw p2).bind fun q3 => q3.elim (some ((-1), bc, sg, tr, tu, ff, pl, lw)) (fun i4 => some ((-1), bc, sg, tr, tu, ff, pl, lw))) (fun i2 => (f_Bc_lineAt nl nT LS TS FP FS bc sg tr tu ff pl lw p2).bind fun q5 => q5.elim (some ((-1), bc, sg, tr, tu, ff, pl, lw)) (fun i6 => (if p1 = p2 then some ((-1), bc, sg, tr, tu, ff, pl, lw) else (if ((LS i2).1 3) = 0 then some ((-1), bc, sg, tr, tu, ff, pl, lw) else (if ((LS i6).1 3) = 0 then some ((-1), bc, sg, tr, tu, ff, pl, lw) else (f_Ln_allLegsTold (LS i2) (nT i2) (TS i2)).bind fun q12 => (if q12 = 0 then some ((-1), bc, sg, tr, tu, ff, pl, lw) else (f_Ln_allLegsTold (LS i6) (nT i6) (TS i6)).bind fun q15 => (if q15 = 0 then some ((-1), bc, sg, tr, tu, ff, pl, lw) else (f_Tr_follow tr (LS i2) (nT i2) (TS i2)).bind fun q18 => (f_Tr_follow tu (LS i6) (nT i6) (TS i6)).bind fun q19 => (some ((((LS i2).1 1) + ((LS i6).1 1)).toInt64) : Option Int64).bind fun v22 => (some ((((LS i2).1 6) - ((LS i6).1 6)).toInt64) : Option Int64).bind fun v25 => (some ((v22 * v22) - ((4 * v25) * v25)) : Option Int64).bind fun v26 => (f_Tr_leastSquareTo q18.2 q19.2).bind fun q27 => (if v26 ≤ (4 * q27) then some (0, bc, sg, q18.2, q19.2, ff, pl, lw) else some (1, bc, sg, q18.2, q19.2, ff, pl, lw)))))))))
def rm_Bc_clash : Room := { frames := 3, cells := 0, slots := 0, locals := 84 }
set_option maxHeartbeats 4000000 in
set_option maxRecDepth 100000 in
theorem m_Bc_clash (l : Launch) (dC : Nat → ClassId) (dI : Nat → Nat → Nat) (tC : Nat → ClassId) (TL : va_W) (nl : Nat) (hL : Nat → Nat) (adL aT : Nat → Nat → Nat) (nT : Nat → Nat) (LS TS : Nat → MS) (FP : Nat → Bool) (hF : Nat → Nat) (adF : Nat → Nat → Nat) (FS : Nat → MS) (rf : Nat → Nat → Option Nat) (h_bc : Nat) (ad_bc : Nat → Nat) (bc : MS) (ad_sg : Nat → Nat) (sg : MS) (ad_tr : Nat → Nat) (tr : MS) (ad_tu : Nat → Nat) (tu : MS) (ad_ff : Nat → Nat) (ff : MS) (ad_pl : Nat → Nat) (pl : MS) (ad_lw : Nat → Nat) (lw : MS) (p1 : Int32) (p2 : Int32) (R : Int32 × MS × MS × MS × MS × MS × MS × MS) (hFM : FM tC TL nl hL adL aT nT LS TS FP hF adF FS rf) (hf : f_Bc_clash nl nT LS TS FP FS bc sg tr tu ff pl lw p1 p2 = some R) (sz : Nat) : Met l y_Bc_clash w_Bc_clash rm_Bc_clash (wrP (dC, dI) tC (w_Bc_ h_bc ad_bc tC rf bc ++ (w_Sg_ (ad_bc 100) ad_sg tC sg ++ (w_Tr_ (ad_bc 104) ad_tr tC tr ++ (w_Tr_ (ad_bc 105) ad_tu tC tu ++ (w_Ff_ (ad_bc 103) ad_ff tC ff ++ (w_Pl_ (ad_bc 101) ad_pl tC pl ++ (w_Lw_ (ad_bc 102) ad_lw tC lw ++ TL))))))) sz [.ref h_bc, .int p1, .int p2]) (wrQ (dC, dI) (w_Bc_ h_bc ad_bc tC rf bc ++ (w_Sg_ (ad_bc 100) ad_sg tC sg ++ (w_Tr_ (ad_bc 104) ad_tr tC tr ++ (w_Tr_ (ad_bc 105) ad_tu tC tu ++ (w_Ff_ (ad_bc 103) ad_ff tC ff ++ (w_Pl_ (ad_bc 101) ad_pl tC pl ++ (w_Lw_ (ad_bc 102) ad_lw tC lw ++ TL))))))) sz (fun r w => r = (some (.int R.1)) ∧ w = (w_Bc_ h_bc ad_bc tC rf R.2.1 ++ (w_Sg_ (ad_bc 100) ad_sg tC R.2.2.1 ++ (w_Tr_ (ad_bc 104) ad_tr tC R.2.2.2.1 ++ (w_Tr_ (ad_bc 105) ad_tu tC R.2.2.2.2.1 ++ (w_Ff_ (ad_bc 103) ad_ff tC R.2.2.2.2.2.1 ++ (w_Pl_ (ad_bc 101) ad_pl tC R.2.2.2.2.2.2.1 ++ (w_Lw_ (ad_bc 102) ad_lw tC R.2.2.2.2.2.2.2 ++ TL))))))))) 0 0 (va_A (w_Bc_ h_bc ad_bc tC rf bc ++ (w_Sg_ (ad_bc 100) ad_sg tC sg ++ (w_Tr_ (ad_bc 104) ad_tr tC tr ++ (w_Tr_ (ad_bc 105) ad_tu tC tu ++ (w_Ff_ (ad_bc 103) ad_ff tC ff ++ (w_Pl_ (ad_bc 101) ad_pl tC pl ++ (w_Lw_ (ad_bc 102) ad_lw tC lw ++ TL))))))) sz) := by
  refine Met.ofW (cc := c_Bc_clash) (maxL := 11) (ret := (some (.int))) (by decide) rfl ?_
  intro p e s m args below meth c s₁ B hml hv
  obtain ⟨hav, hsz, hP, hK, hD0⟩ := hv
  have hx := B.exec
  have hb := B.bytes
  have hr := B.returns
  have hts : ∀ w ∈ gw, w.before args s = true := fun w h => atoms_spec (ws := w_Bc_clash) B.pre w (List.mem_cons_of_mem _ h)
  have hown : s.vm.findClass RX8 = some m.cls := findClass_of_methodNamed B.named
  have hlocks := B.notSynchronized
  subst hsz
  have hD := hD0.self (sz := s.heap.size)
  obtain ⟨A, hAe⟩ : ∃ z, z = va_A (w_Bc_ h_bc ad_bc tC rf bc ++ (w_Sg_ (ad_bc 100) ad_sg tC sg ++ (w_Tr_ (ad_bc 104) ad_tr tC tr ++ (w_Tr_ (ad_bc 105) ad_tu tC tu ++ (w_Ff_ (ad_bc 103) ad_ff tC ff ++ (w_Pl_ (ad_bc 101) ad_pl tC pl ++ (w_Lw_ (ad_bc 102) ad_lw tC lw ++ TL))))))) s.heap.size := ⟨_, rfl⟩
  rw [← hAe] at hD
  have hA : ∀ q : Nat, s.heap.size ≤ q → A q := fun q h => by rw [hAe]; exact Or.inr h
  have hS : va_S A s.heap s.heap [] := va_S.rf
  refine q_w (R := rm_Bc_clash) (fun Q hQ => ?_)
  refine en_w (av := [.ref h_bc, .int p1, .int p2]) hav (Nat.le_of_ble_eq_true rfl) (fun ls hl => ?_)
  have hl : lv_has ls 11 [(0, .ref h_bc), (1, .int p1), (2, .int p2)] := hl
  unfold f_Bc_clash at hf
  refine lv_aload_n hx hb d_Bc_clash_0 rfl (lv_at hl 0 rfl) ?_
  refine lv_iload_n hx hb d_Bc_clash_1 rfl (lv_at hl 1 rfl) ?_
  obtain ⟨q1, hq1, hf⟩ := op_b hf
  refine ro_go rfl (va_runV (As := [.int p1]) (rest := []) ⟨hx, hb, hml, hown, hts⟩ (m_Bc_lineAt l dC dI tC TL nl hL adL aT nT LS TS FP hF adF FS rf h_bc ad_bc bc ad_sg sg ad_tr tr ad_tu tu ad_ff ff ad_pl pl ad_lw lw p1  q1 _ hFM hP hq1) (cwV 1 hts (gd_V kM_8_102 kI_Bc_lineAt kV_Bc_lineAt kZ_8 kC_Bc_lineAt) rfl rfl rfl (by decide +kernel) ⟨(Nat.le_of_ble_eq_true rfl), (Nat.le_of_ble_eq_true rfl)⟩) ⟨ro_blind, va_recv hK hP (ci := 8) (q0 := 0) rfl rfl, ro_pre hK⟩ rfl rfl hl.1 rfl (lv_room (Nat.le_of_ble_eq_true rfl)) d_Bc_clash_2 ⟨(Nat.le_of_ble_eq_true rfl), (Nat.le_of_ble_eq_true rfl)⟩) ?_
  have hltq1 := lineAt_lt hq1
  rcases q1 with _ | i2
  · have hf := oe_n hf
    refine W.eq (g2 := F0 m 5 ls [.null]) rfl ?_
    refine lv_astore_nN (lv' := [(3, .null), (0, .ref h_bc), (1, .int p1), (2, .int p2)]) hx hb d_Bc_clash_5 rfl hl (by decide) rfl (fun ls hl => ?_)
    refine lv_aload_n hx hb d_Bc_clash_6 rfl (lv_at hl 1 rfl) ?_
    refine lv_iload_n hx hb d_Bc_clash_7 rfl (lv_at hl 3 rfl) ?_
    obtain ⟨q3, hq3, hf⟩ := op_b hf
    refine ro_go rfl (va_runV (As := [.int p2]) (rest := []) ⟨hx, hb, hml, hown, hts⟩ (m_Bc_lineAt l dC dI tC TL nl hL adL aT nT LS TS FP hF adF FS rf h_bc ad_bc bc ad_sg sg ad_tr tr ad_tu tu ad_ff ff ad_pl pl ad_lw lw p2  q3 _ hFM hP hq3) (cwV 1 hts (gd_V kM_8_102 kI_Bc_lineAt kV_Bc_lineAt kZ_8 kC_Bc_lineAt) rfl rfl rfl (by decide +kernel) ⟨(Nat.le_of_ble_eq_true rfl), (Nat.le_of_ble_eq_true rfl)⟩) ⟨ro_blind, va_recv hK hP (ci := 8) (q0 := 0) rfl rfl, ro_pre hK⟩ rfl rfl hl.1 rfl (lv_room (Nat.le_of_ble_eq_true rfl)) d_Bc_clash_8 ⟨(Nat.le_of_ble_eq_true rfl), (Nat.le_of_ble_eq_true rfl)⟩) ?_
    have hltq3 := lineAt_lt hq3
    rcases q3 with _ | i4
    · have hf := oe_n hf
      refine W.eq (g2 := F0 m 11 ls [.null]) rfl ?_
      refine lv_astoreN (lv' := [(4, .null), (3, .null), (0, .ref h_bc), (1, .int p1), (2, .int p2)]) hx hb d_Bc_clash_11 hl (by decide) rfl (fun ls hl => ?_)
      refine lv_aload_nN hx hb d_Bc_clash_13 rfl (lv_at hl 1 rfl) ?_
      refine lv_ifnullN (tgt := 27) hx hb d_Bc_clash_14 (by decide) ?_
      refine lv_iconst (v := (-1)) hx hb d_Bc_clash_27 (by decide) ?_
      obtain rfl := Option.some.inj hf
      subst hQ
      subst hAe
      exact W.iret (v := (-1)) hx hb hr (fun t ht hW => ⟨⟨_, _, rfl, ⟨rfl, rfl⟩, by rw [ht]; exact hP, hD⟩, hS.F ht⟩) hS.2.2 d_Bc_clash_28
    · have hf := oe_s hf
      have hi4 := hltq3 i4 rfl
      refine W.eq (g2 := F0 m 11 ls [.ref (hL i4)]) rfl ?_
      refine lv_astore (lv' := [(4, .ref (hL i4)), (3, .null), (0, .ref h_bc), (1, .int p1), (2, .int p2)]) hx hb d_Bc_clash_11 hl (by decide) rfl (fun ls hl => ?_)
      refine lv_aload_nN hx hb d_Bc_clash_13 rfl (lv_at hl 1 rfl) ?_
      refine lv_ifnullN (tgt := 27) hx hb d_Bc_clash_14 (by decide) ?_
      refine lv_iconst (v := (-1)) hx hb d_Bc_clash_27 (by decide) ?_
      obtain rfl := Option.some.inj hf
      subst hQ
      subst hAe
      exact W.iret (v := (-1)) hx hb hr (fun t ht hW => ⟨⟨_, _, rfl, ⟨rfl, rfl⟩, by rw [ht]; exact hP, hD⟩, hS.F ht⟩) hS.2.2 d_Bc_clash_28
  · have hf := oe_s hf
    have hi2 := hltq1 i2 rfl
    refine W.eq (g2 := F0 m 5 ls [.ref (hL i2)]) rfl ?_
    refine lv_astore_n (lv' := [(3, .ref (hL i2)), (0, .ref h_bc), (1, .int p1), (2, .int p2)]) hx hb d_Bc_clash_5 rfl hl (by decide) rfl (fun ls hl => ?_)
    refine lv_aload_n hx hb d_Bc_clash_6 rfl (lv_at hl 1 rfl) ?_
    refine lv_iload_n hx hb d_Bc_clash_7 rfl (lv_at hl 3 rfl) ?_
    obtain ⟨q5, hq5, hf⟩ := op_b hf
    refine ro_go rfl (va_runV (As := [.int p2]) (rest := []) ⟨hx, hb, hml, hown, hts⟩ (m_Bc_lineAt l dC dI tC TL nl hL adL aT nT LS TS FP hF adF FS rf h_bc ad_bc bc ad_sg sg ad_tr tr ad_tu tu ad_ff ff ad_pl pl ad_lw lw p2  q5 _ hFM hP hq5) (cwV 1 hts (gd_V kM_8_102 kI_Bc_lineAt kV_Bc_lineAt kZ_8 kC_Bc_lineAt) rfl rfl rfl (by decide +kernel) ⟨(Nat.le_of_ble_eq_true rfl), (Nat.le_of_ble_eq_true rfl)⟩) ⟨ro_blind, va_recv hK hP (ci := 8) (q0 := 0) rfl rfl, ro_pre hK⟩ rfl rfl hl.1 rfl (lv_room (Nat.le_of_ble_eq_true rfl)) d_Bc_clash_8 ⟨(Nat.le_of_ble_eq_true rfl), (Nat.le_of_ble_eq_true rfl)⟩) ?_
    have hltq5 := lineAt_lt hq5
    rcases q5 with _ | i6
    · have hf := oe_n hf
      refine W.eq (g2 := F0 m 11 ls [.null]) rfl ?_
      refine lv_astoreN (lv' := [(4, .null), (3, .ref (hL i2)), (0, .ref h_bc), (1, .int p1), (2, .int p2)]) hx hb d_Bc_clash_11 hl (by decide) rfl (fun ls hl => ?_)
      refine lv_aload_n hx hb d_Bc_clash_13 rfl (lv_at hl 1 rfl) ?_
      refine lv_ifnull hx hb d_Bc_clash_14 ?_
      refine lv_aloadN hx hb d_Bc_clash_17 (lv_at hl 0 rfl) ?_
      refine lv_ifnullN (tgt := 27) hx hb d_Bc_clash_19 (by decide) ?_
      refine lv_iconst (v := (-1)) hx hb d_Bc_clash_27 (by decide) ?_
      obtain rfl := Option.some.inj hf
      subst hQ
      subst hAe
      exact W.iret (v := (-1)) hx hb hr (fun t ht hW => ⟨⟨_, _, rfl, ⟨rfl, rfl⟩, by rw [ht]; exact hP, hD⟩, hS.F ht⟩) hS.2.2 d_Bc_clash_28
    · have hf := oe_s hf
      have hi6 := hltq5 i6 rfl
      refine W.eq (g2 := F0 m 11 ls [.ref (hL i6)]) rfl ?_
      refine lv_astore (lv' := [(4, .ref (hL i6)), (3, .ref (hL i2)), (0, .ref h_bc), (1, .int p1), (2, .int p2)]) hx hb d_Bc_clash_11 hl (by decide) rfl (fun ls hl => ?_)
      refine lv_aload_n hx hb d_Bc_clash_13 rfl (lv_at hl 1 rfl) ?_
      refine lv_ifnull hx hb d_Bc_clash_14 ?_
      refine lv_aload hx hb d_Bc_clash_17 (lv_at hl 0 rfl) ?_
      refine lv_ifnull hx hb d_Bc_clash_19 ?_
      refine lv_iload_n hx hb d_Bc_clash_22 rfl (lv_at hl 3 rfl) ?_
      refine lv_iload_n hx hb d_Bc_clash_23 rfl (lv_at hl 4 rfl) ?_
      refine lv_icmp_ne (tgt := 29) hx hb d_Bc_clash_24 (by decide) (fun c7 => ?_) (fun c7 => ?_)
      · have hf := op_e hf c7
        refine lv_aload_n hx hb d_Bc_clash_29 rfl (lv_at hl 1 rfl) ?_
        obtain ⟨k8, hk8⟩ := List.getElem?_of_mem (List.mem_append_right _ (List.mem_append_right _ (List.mem_append_right _ (List.mem_append_right _ (List.mem_append_right _ (List.mem_append_right _ (List.mem_append_right _ ((hFM.1 i2 hi2) _ (List.mem_of_getElem? (i := 0) rfl)))))))))
        refine va_get (D := (dC, dI)) (ci := 2) (v := .int ((LS i2).1 3)) (C := RX2) (T := TX2) (N := 9) hx hb hts in_X2 hown hK hP k8 hk8 rfl 5 (by decide) (hts _ kF_8_190) (fun _ h9 => h9) rfl d_Bc_clash_30 ?_
        refine lv_if_eq (tgt := 59) hx hb d_Bc_clash_33 (by decide) (fun c9 => ?_) (fun c9 => ?_)
        · have hf := op_t hf c9
          refine lv_iconst (v := (-1)) hx hb d_Bc_clash_59 (by decide) ?_
          obtain rfl := Option.some.inj hf
          subst hQ
          subst hAe
          exact W.iret (v := (-1)) hx hb hr (fun t ht hW => ⟨⟨_, _, rfl, ⟨rfl, rfl⟩, by rw [ht]; exact hP, hD⟩, hS.F ht⟩) hS.2.2 d_Bc_clash_60
        · have hf := op_e hf c9
          refine lv_aload hx hb d_Bc_clash_36 (lv_at hl 0 rfl) ?_
          obtain ⟨k10, hk10⟩ := List.getElem?_of_mem (List.mem_append_right _ (List.mem_append_right _ (List.mem_append_right _ (List.mem_append_right _ (List.mem_append_right _ (List.mem_append_right _ (List.mem_append_right _ ((hFM.1 i6 hi6) _ (List.mem_of_getElem? (i := 0) rfl)))))))))
          refine va_get (D := (dC, dI)) (ci := 2) (v := .int ((LS i6).1 3)) (C := RX2) (T := TX2) (N := 9) hx hb hts in_X2 hown hK hP k10 hk10 rfl 5 (by decide) (hts _ kF_8_190) (fun _ h9 => h9) rfl d_Bc_clash_38 ?_
          refine lv_if_eq (tgt := 59) hx hb d_Bc_clash_41 (by decide) (fun c11 => ?_) (fun c11 => ?_)
          · have hf := op_t hf c11
            refine lv_iconst (v := (-1)) hx hb d_Bc_clash_59 (by decide) ?_
            obtain rfl := Option.some.inj hf
            subst hQ
            subst hAe
            exact W.iret (v := (-1)) hx hb hr (fun t ht hW => ⟨⟨_, _, rfl, ⟨rfl, rfl⟩, by rw [ht]; exact hP, hD⟩, hS.F ht⟩) hS.2.2 d_Bc_clash_60
          · have hf := op_e hf c11
            refine lv_aload_n hx hb d_Bc_clash_44 rfl (lv_at hl 1 rfl) ?_
            obtain ⟨q12, hq12, hf⟩ := op_b hf
            obtain ⟨k13, hk13⟩ := List.getElem?_of_mem (List.mem_append_right _ (List.mem_append_right _ (List.mem_append_right _ (List.mem_append_right _ (List.mem_append_right _ (List.mem_append_right _ (List.mem_append_right _ ((hFM.1 i2 hi2) _ (List.mem_of_getElem? (i := 0) rfl)))))))))
            refine ro_go rfl (va_runV (As := []) (rest := []) ⟨hx, hb, hml, hown, hts⟩ (m_Ln_allLegsTold l dC dI tC (hL i2) (adL i2) (LS i2) (aT i2) (nT i2) (TS i2) q12 _ ((va_P_in hP (fun q h => (List.mem_append_right _ (List.mem_append_right _ (List.mem_append_right _ (List.mem_append_right _ (List.mem_append_right _ (List.mem_append_right _ (List.mem_append_right _ ((hFM.1 i2 hi2) q h)))))))))).app (va_P_in hP (fun q h => (List.mem_append_right _ (List.mem_append_right _ (List.mem_append_right _ (List.mem_append_right _ (List.mem_append_right _ (List.mem_append_right _ (List.mem_append_right _ ((hFM.2.1 i2 hi2) q h))))))))))) hq12) (cwV 0 hts (gd_V kM_8_193 kI_Ln_allLegsTold kV_Ln_allLegsTold kZ_2 kC_Ln_allLegsTold) rfl rfl rfl (by decide +kernel) ⟨(Nat.le_of_ble_eq_true rfl), (Nat.le_of_ble_eq_true rfl)⟩) ⟨ro_blind, va_recv hK hP (ci := 2) (q0 := k13) rfl hk13, ro_pre hK⟩ rfl rfl hl.1 rfl (lv_room (Nat.le_of_ble_eq_true rfl)) d_Bc_clash_45 ⟨(Nat.le_of_ble_eq_true rfl), (Nat.le_of_ble_eq_true rfl)⟩) ?_
            refine W.eq (g2 := F0 m 48 ls [.int q12]) rfl ?_
            refine lv_if_eq (tgt := 59) hx hb d_Bc_clash_48 (by decide) (fun c14 => ?_) (fun c14 => ?_)
            · have hf := op_t hf c14
              refine lv_iconst (v := (-1)) hx hb d_Bc_clash_59 (by decide) ?_
              obtain rfl := Option.some.inj hf
              subst hQ
              subst hAe
              exact W.iret (v := (-1)) hx hb hr (fun t ht hW => ⟨⟨_, _, rfl, ⟨rfl, rfl⟩, by rw [ht]; exact hP, hD⟩, hS.F ht⟩) hS.2.2 d_Bc_clash_60
            · have hf := op_e hf c14
              refine lv_aload hx hb d_Bc_clash_51 (lv_at hl 0 rfl) ?_
              obtain ⟨q15, hq15, hf⟩ := op_b hf
              obtain ⟨k16, hk16⟩ := List.getElem?_of_mem (List.mem_append_right _ (List.mem_append_right _ (List.mem_append_right _ (List.mem_append_right _ (List.mem_append_right _ (List.mem_append_right _ (List.mem_append_right _ ((hFM.1 i6 hi6) _ (List.mem_of_getElem? (i := 0) rfl)))))))))
              refine ro_go rfl (va_runV (As := []) (rest := []) ⟨hx, hb, hml, hown, hts⟩ (m_Ln_allLegsTold l dC dI tC (hL i6) (adL i6) (LS i6) (aT i6) (nT i6) (TS i6) q15 _ ((va_P_in hP (fun q h => (List.mem_append_right _ (List.mem_append_right _ (List.mem_append_right _ (List.mem_append_right _ (List.mem_append_right _ (List.mem_append_right _ (List.mem_append_right _ ((hFM.1 i6 hi6) q h)))))))))).app (va_P_in hP (fun q h => (List.mem_append_right _ (List.mem_append_right _ (List.mem_append_right _ (List.mem_append_right _ (List.mem_append_right _ (List.mem_append_right _ (List.mem_append_right _ ((hFM.2.1 i6 hi6) q h))))))))))) hq15) (cwV 0 hts (gd_V kM_8_193 kI_Ln_allLegsTold kV_Ln_allLegsTold kZ_2 kC_Ln_allLegsTold) rfl rfl rfl (by decide +kernel) ⟨(Nat.le_of_ble_eq_true rfl), (Nat.le_of_ble_eq_true rfl)⟩) ⟨ro_blind, va_recv hK hP (ci := 2) (q0 := k16) rfl hk16, ro_pre hK⟩ rfl rfl hl.1 rfl (lv_room (Nat.le_of_ble_eq_true rfl)) d_Bc_clash_53 ⟨(Nat.le_of_ble_eq_true rfl), (Nat.le_of_ble_eq_true rfl)⟩) ?_
              refine W.eq (g2 := F0 m 56 ls [.int q15]) rfl ?_
              refine lv_if_ne (tgt := 61) hx hb d_Bc_clash_56 (by decide) (fun c17 => ?_) (fun c17 => ?_)
              · have hf := op_e hf c17
                refine lv_aload_n hx hb d_Bc_clash_61 rfl (lv_at hl 2 rfl) ?_
                refine va_get (D := (dC, dI)) (ci := 8) (v := .ref (ad_bc 104)) (C := RX8) (T := TX8) (N := 12) hx hb hts in_X8 hown hK hP 0 rfl rfl 8 (by decide) (hts _ kF_8_62) (fun _ h9 => h9) rfl d_Bc_clash_62 ?_
                refine lv_aload_n hx hb d_Bc_clash_65 rfl (lv_at hl 1 rfl) ?_
                obtain ⟨q18, hq18, hf⟩ := op_b hf
                have hPx := cv_P (ws' := (w_Bc_ h_bc ad_bc tC rf bc ++ w_Sg_ (ad_bc 100) ad_sg tC sg) ++ ((w_Tr_ (ad_bc 104) ad_tr tC tr) ++ (w_Tr_ (ad_bc 105) ad_tu tC tu ++ (w_Ff_ (ad_bc 103) ad_ff tC ff ++ (w_Pl_ (ad_bc 101) ad_pl tC pl ++ (w_Lw_ (ad_bc 102) ad_lw tC lw ++ TL)))))) hP (by simp only [List.append_assoc, List.nil_append])
                have hDx := cv_D (ws' := (w_Bc_ h_bc ad_bc tC rf bc ++ w_Sg_ (ad_bc 100) ad_sg tC sg) ++ ((w_Tr_ (ad_bc 104) ad_tr tC tr) ++ (w_Tr_ (ad_bc 105) ad_tu tC tu ++ (w_Ff_ (ad_bc 103) ad_ff tC ff ++ (w_Pl_ (ad_bc 101) ad_pl tC pl ++ (w_Lw_ (ad_bc 102) ad_lw tC lw ++ TL)))))) hD (by simp only [List.append_assoc, List.nil_append])
                have hro : ∀ q ∈ (w_Ln_ (hL i2) (adL i2) tC (LS i2) ++ w_Sh_ (adL i2 100) (aT i2) tC (nT i2) (TS i2)), q ∈ (w_Tr_ (ad_bc 105) ad_tu tC tu ++ (w_Ff_ (ad_bc 103) ad_ff tC ff ++ (w_Pl_ (ad_bc 101) ad_pl tC pl ++ (w_Lw_ (ad_bc 102) ad_lw tC lw ++ TL)))) := fun q h => (fun h9 => (List.mem_append_right _ (List.mem_append_right _ (List.mem_append_right _ (List.mem_append_right _ h9))))) ((show ∀ q ∈ (w_Ln_ (hL i2) (adL i2) tC (LS i2) ++ w_Sh_ (adL i2 100) (aT i2) tC (nT i2) (TS i2)), q ∈ TL from fun q h => (List.mem_append.mp h).elim (fun h => (hFM.1 i2 hi2) q h) (fun h => (hFM.2.1 i2 hi2) q h)) q h)
                obtain ⟨hPc, hDc, hFc⟩ := bk_cut hPx hDx hS hA hro ((hFM.2.2.2.2.2.2.1 i2 hi2))
                refine wr_go (va_runV (As := [.ref (hL i2)]) (rest := []) ⟨hx, hb, hml, hown, hts⟩ (m_Tr_follow l dC dI tC (ad_bc 104) ad_tr tr (hL i2) (adL i2) (LS i2) (aT i2) (nT i2) (TS i2) q18 hq18 _) (cwV 1 hts (gd_V kM_8_197 kI_Tr_follow kV_Tr_follow kZ_7 kC_Tr_follow) rfl rfl rfl (by decide +kernel) ⟨(Nat.le_of_ble_eq_true rfl), (Nat.le_of_ble_eq_true rfl)⟩) ⟨wr_blind, va_recv hK hP (ci := 7) (q0 := 7) rfl rfl, wr_pre hK hPc hDc⟩ rfl rfl hl.1 rfl (lv_room (Nat.le_of_ble_eq_true rfl)) d_Bc_clash_66 ⟨(Nat.le_of_ble_eq_true rfl), (Nat.le_of_ble_eq_true rfl)⟩) hS hFc (fun r w1 H1 locs hw hP1 hD1 hk1 hS => ?_)
                obtain ⟨rfl, rfl⟩ := hw
                obtain ⟨hP, hD⟩ := bk_join (B1 := (w_Tr_ (ad_bc 104) ad_tr tC q18.2)) hPx hDx hro hk1 hP1 rfl
                clear hP1 hD1 hk1 hPc hDc hFc hPx hDx hro
                have hP := cv_P (ws' := (w_Bc_ h_bc ad_bc tC rf bc ++ (w_Sg_ (ad_bc 100) ad_sg tC sg ++ (w_Tr_ (ad_bc 104) ad_tr tC q18.2 ++ (w_Tr_ (ad_bc 105) ad_tu tC tu ++ (w_Ff_ (ad_bc 103) ad_ff tC ff ++ (w_Pl_ (ad_bc 101) ad_pl tC pl ++ (w_Lw_ (ad_bc 102) ad_lw tC lw ++ TL)))))))) hP (by simp only [List.append_assoc, List.nil_append])
                have hD := cv_D (ws' := (w_Bc_ h_bc ad_bc tC rf bc ++ (w_Sg_ (ad_bc 100) ad_sg tC sg ++ (w_Tr_ (ad_bc 104) ad_tr tC q18.2 ++ (w_Tr_ (ad_bc 105) ad_tu tC tu ++ (w_Ff_ (ad_bc 103) ad_ff tC ff ++ (w_Pl_ (ad_bc 101) ad_pl tC pl ++ (w_Lw_ (ad_bc 102) ad_lw tC lw ++ TL)))))))) hD (by simp only [List.append_assoc, List.nil_append])
                refine W.eq (g2 := F0 m 69 ls []) rfl ?_
                refine lv_aload_n hx hb d_Bc_clash_69 rfl (lv_at hl 2 rfl) ?_
                refine va_get (D := (dC, dI)) (ci := 8) (v := .ref (ad_bc 105)) (C := RX8) (T := TX8) (N := 12) hx hb hts in_X8 hown hK hP 0 rfl rfl 9 (by decide) (hts _ kF_8_66) (fun _ h9 => h9) rfl d_Bc_clash_70 ?_
                refine lv_aload hx hb d_Bc_clash_73 (lv_at hl 0 rfl) ?_
                obtain ⟨q19, hq19, hf⟩ := op_b hf
                have hPx := cv_P (ws' := (w_Bc_ h_bc ad_bc tC rf bc ++ (w_Sg_ (ad_bc 100) ad_sg tC sg ++ w_Tr_ (ad_bc 104) ad_tr tC q18.2)) ++ ((w_Tr_ (ad_bc 105) ad_tu tC tu) ++ (w_Ff_ (ad_bc 103) ad_ff tC ff ++ (w_Pl_ (ad_bc 101) ad_pl tC pl ++ (w_Lw_ (ad_bc 102) ad_lw tC lw ++ TL))))) hP (by simp only [List.append_assoc, List.nil_append])
                have hDx := cv_D (ws' := (w_Bc_ h_bc ad_bc tC rf bc ++ (w_Sg_ (ad_bc 100) ad_sg tC sg ++ w_Tr_ (ad_bc 104) ad_tr tC q18.2)) ++ ((w_Tr_ (ad_bc 105) ad_tu tC tu) ++ (w_Ff_ (ad_bc 103) ad_ff tC ff ++ (w_Pl_ (ad_bc 101) ad_pl tC pl ++ (w_Lw_ (ad_bc 102) ad_lw tC lw ++ TL))))) hD (by simp only [List.append_assoc, List.nil_append])
                have hro : ∀ q ∈ (w_Ln_ (hL i6) (adL i6) tC (LS i6) ++ w_Sh_ (adL i6 100) (aT i6) tC (nT i6) (TS i6)), q ∈ (w_Ff_ (ad_bc 103) ad_ff tC ff ++ (w_Pl_ (ad_bc 101) ad_pl tC pl ++ (w_Lw_ (ad_bc 102) ad_lw tC lw ++ TL))) := fun q h => (fun h9 => (List.mem_append_right _ (List.mem_append_right _ (List.mem_append_right _ h9)))) ((show ∀ q ∈ (w_Ln_ (hL i6) (adL i6) tC (LS i6) ++ w_Sh_ (adL i6 100) (aT i6) tC (nT i6) (TS i6)), q ∈ TL from fun q h => (List.mem_append.mp h).elim (fun h => (hFM.1 i6 hi6) q h) (fun h => (hFM.2.1 i6 hi6) q h)) q h)
                obtain ⟨hPc, hDc, hFc⟩ := bk_cut hPx hDx hS hA hro ((hFM.2.2.2.2.2.2.1 i6 hi6))
                refine wr_go (va_runV (As := [.ref (hL i6)]) (rest := []) ⟨hx, hb, hml, hown, hts⟩ (m_Tr_follow l dC dI tC (ad_bc 105) ad_tu tu (hL i6) (adL i6) (LS i6) (aT i6) (nT i6) (TS i6) q19 hq19 _) (cwV 1 hts (gd_V kM_8_197 kI_Tr_follow kV_Tr_follow kZ_7 kC_Tr_follow) rfl rfl rfl (by decide +kernel) ⟨(Nat.le_of_ble_eq_true rfl), (Nat.le_of_ble_eq_true rfl)⟩) ⟨wr_blind, va_recv hK hP (ci := 7) (q0 := 13) rfl rfl, wr_pre hK hPc hDc⟩ rfl rfl hl.1 rfl (lv_room (Nat.le_of_ble_eq_true rfl)) d_Bc_clash_75 ⟨(Nat.le_of_ble_eq_true rfl), (Nat.le_of_ble_eq_true rfl)⟩) hS hFc (fun r w1 H1 locs hw hP1 hD1 hk1 hS => ?_)
                obtain ⟨rfl, rfl⟩ := hw
                obtain ⟨hP, hD⟩ := bk_join (B1 := (w_Tr_ (ad_bc 105) ad_tu tC q19.2)) hPx hDx hro hk1 hP1 rfl
                clear hP1 hD1 hk1 hPc hDc hFc hPx hDx hro
                have hP := cv_P (ws' := (w_Bc_ h_bc ad_bc tC rf bc ++ (w_Sg_ (ad_bc 100) ad_sg tC sg ++ (w_Tr_ (ad_bc 104) ad_tr tC q18.2 ++ (w_Tr_ (ad_bc 105) ad_tu tC q19.2 ++ (w_Ff_ (ad_bc 103) ad_ff tC ff ++ (w_Pl_ (ad_bc 101) ad_pl tC pl ++ (w_Lw_ (ad_bc 102) ad_lw tC lw ++ TL)))))))) hP (by simp only [List.append_assoc, List.nil_append])
                have hD := cv_D (ws' := (w_Bc_ h_bc ad_bc tC rf bc ++ (w_Sg_ (ad_bc 100) ad_sg tC sg ++ (w_Tr_ (ad_bc 104) ad_tr tC q18.2 ++ (w_Tr_ (ad_bc 105) ad_tu tC q19.2 ++ (w_Ff_ (ad_bc 103) ad_ff tC ff ++ (w_Pl_ (ad_bc 101) ad_pl tC pl ++ (w_Lw_ (ad_bc 102) ad_lw tC lw ++ TL)))))))) hD (by simp only [List.append_assoc, List.nil_append])
                refine W.eq (g2 := F0 m 78 ls []) rfl ?_
                refine lv_aload_n hx hb d_Bc_clash_78 rfl (lv_at hl 1 rfl) ?_
                obtain ⟨k20, hk20⟩ := List.getElem?_of_mem (List.mem_append_right _ (List.mem_append_right _ (List.mem_append_right _ (List.mem_append_right _ (List.mem_append_right _ (List.mem_append_right _ (List.mem_append_right _ ((hFM.1 i2 hi2) _ (List.mem_of_getElem? (i := 0) rfl)))))))))
                refine va_get (D := (dC, dI)) (ci := 2) (v := .int ((LS i2).1 1)) (C := RX2) (T := TX2) (N := 9) hx hb hts in_X2 hown hK hP k20 hk20 rfl 2 (by decide) (hts _ kF_8_129) (fun _ h9 => h9) rfl d_Bc_clash_79 ?_
                refine lv_aload hx hb d_Bc_clash_82 (lv_at hl 0 rfl) ?_
                obtain ⟨k21, hk21⟩ := List.getElem?_of_mem (List.mem_append_right _ (List.mem_append_right _ (List.mem_append_right _ (List.mem_append_right _ (List.mem_append_right _ (List.mem_append_right _ (List.mem_append_right _ ((hFM.1 i6 hi6) _ (List.mem_of_getElem? (i := 0) rfl)))))))))
                refine va_get (D := (dC, dI)) (ci := 2) (v := .int ((LS i6).1 1)) (C := RX2) (T := TX2) (N := 9) hx hb hts in_X2 hown hK hP k21 hk21 rfl 2 (by decide) (hts _ kF_8_129) (fun _ h9 => h9) rfl d_Bc_clash_84 ?_
                refine lv_iadd hx hb d_Bc_clash_87 ?_
                refine lv_i2l (v := (((LS i2).1 1) + ((LS i6).1 1)).toInt64) hx hb d_Bc_clash_88 rfl ?_
                obtain ⟨v22, hv22, hf⟩ := op_b hf
                refine rw_l (y := v22) (Option.some.inj hv22) ?_
                refine lv_lstore (lv' := [(5, .long v22), (4, .ref (hL i6)), (3, .ref (hL i2)), (0, .ref h_bc), (1, .int p1), (2, .int p2)]) hx hb d_Bc_clash_89 hl (by decide) rfl (fun ls hl => ?_)
                refine lv_aload_n hx hb d_Bc_clash_91 rfl (lv_at hl 2 rfl) ?_
                obtain ⟨k23, hk23⟩ := List.getElem?_of_mem (List.mem_append_right _ (List.mem_append_right _ (List.mem_append_right _ (List.mem_append_right _ (List.mem_append_right _ (List.mem_append_right _ (List.mem_append_right _ ((hFM.1 i2 hi2) _ (List.mem_of_getElem? (i := 0) rfl)))))))))
                refine va_get (D := (dC, dI)) (ci := 2) (v := .int ((LS i2).1 6)) (C := RX2) (T := TX2) (N := 9) hx hb hts in_X2 hown hK hP k23 hk23 rfl 8 (by decide) (hts _ kF_8_187) (fun _ h9 => h9) rfl d_Bc_clash_92 ?_
                refine lv_aload hx hb d_Bc_clash_95 (lv_at hl 1 rfl) ?_
                obtain ⟨k24, hk24⟩ := List.getElem?_of_mem (List.mem_append_right _ (List.mem_append_right _ (List.mem_append_right _ (List.mem_append_right _ (List.mem_append_right _ (List.mem_append_right _ (List.mem_append_right _ ((hFM.1 i6 hi6) _ (List.mem_of_getElem? (i := 0) rfl)))))))))
                refine va_get (D := (dC, dI)) (ci := 2) (v := .int ((LS i6).1 6)) (C := RX2) (T := TX2) (N := 9) hx hb hts in_X2 hown hK hP k24 hk24 rfl 8 (by decide) (hts _ kF_8_187) (fun _ h9 => h9) rfl d_Bc_clash_97 ?_
                refine lv_isub hx hb d_Bc_clash_100 ?_
                refine lv_i2l (v := (((LS i2).1 6) - ((LS i6).1 6)).toInt64) hx hb d_Bc_clash_101 rfl ?_
                obtain ⟨v25, hv25, hf⟩ := op_b hf
                refine rw_l (y := v25) (Option.some.inj hv25) ?_
                refine lv_lstore (lv' := [(7, .long v25), (5, .long v22), (4, .ref (hL i6)), (3, .ref (hL i2)), (0, .ref h_bc), (1, .int p1), (2, .int p2)]) hx hb d_Bc_clash_102 hl (by decide) rfl (fun ls hl => ?_)
                refine lv_lload hx hb d_Bc_clash_104 (lv_at hl 1 rfl) ?_
                refine lv_lload hx hb d_Bc_clash_106 (lv_at hl 1 rfl) ?_
                refine lv_lmul hx hb d_Bc_clash_108 ?_
                refine lv_ldc2 (v := 4) hx hb hown (hts _ kK_8_210) d_Bc_clash_109 ?_
                refine lv_lload hx hb d_Bc_clash_112 (lv_at hl 0 rfl) ?_
                refine lv_lmul hx hb d_Bc_clash_114 ?_
                refine lv_lload hx hb d_Bc_clash_115 (lv_at hl 0 rfl) ?_
                refine lv_lmul hx hb d_Bc_clash_117 ?_
                refine lv_lsub hx hb d_Bc_clash_118 ?_
                obtain ⟨v26, hv26, hf⟩ := op_b hf
                refine rw_l (y := v26) (Option.some.inj hv26) ?_
                refine lv_lstore (lv' := [(9, .long v26), (7, .long v25), (5, .long v22), (4, .ref (hL i6)), (3, .ref (hL i2)), (0, .ref h_bc), (1, .int p1), (2, .int p2)]) hx hb d_Bc_clash_119 hl (by decide) rfl (fun ls hl => ?_)
                refine lv_ldc2 (v := 4) hx hb hown (hts _ kK_8_210) d_Bc_clash_121 ?_
                refine lv_aload_n hx hb d_Bc_clash_124 rfl (lv_at hl 5 rfl) ?_
                refine va_get (D := (dC, dI)) (ci := 8) (v := .ref (ad_bc 104)) (C := RX8) (T := TX8) (N := 12) hx hb hts in_X8 hown hK hP 0 rfl rfl 8 (by decide) (hts _ kF_8_62) (fun _ h9 => h9) rfl d_Bc_clash_125 ?_
                refine lv_aload_n hx hb d_Bc_clash_128 rfl (lv_at hl 5 rfl) ?_
                refine va_get (D := (dC, dI)) (ci := 8) (v := .ref (ad_bc 105)) (C := RX8) (T := TX8) (N := 12) hx hb hts in_X8 hown hK hP 0 rfl rfl 9 (by decide) (hts _ kF_8_66) (fun _ h9 => h9) rfl d_Bc_clash_129 ?_
                obtain ⟨q27, hq27, hf⟩ := op_b hf
                refine ro_go rfl (va_runV (As := [.ref (ad_bc 105)]) (rest := [.long 4]) ⟨hx, hb, hml, hown, hts⟩ (m_Tr_leastSquareTo l dC dI tC (ad_bc 104) ad_tr q18.2 (ad_bc 105) ad_tu q19.2 q27 _ (hP.sub (ws' := (w_Tr_ (ad_bc 104) ad_tr tC q18.2 ++ w_Tr_ (ad_bc 105) ad_tu tC q19.2)) [7, 8, 9, 10, 11, 12, 13, 14, 15, 16, 17, 18] rfl) hq27) (cwV 1 hts (gd_V kM_8_212 kI_Tr_leastSquareTo kV_Tr_leastSquareTo kZ_7 kC_Tr_leastSquareTo) rfl rfl rfl (by decide +kernel) ⟨(Nat.le_of_ble_eq_true rfl), (Nat.le_of_ble_eq_true rfl)⟩) ⟨ro_blind, va_recv hK hP (ci := 7) (q0 := 7) rfl rfl, ro_pre hK⟩ rfl rfl hl.1 rfl (lv_room (Nat.le_of_ble_eq_true rfl)) d_Bc_clash_132 ⟨(Nat.le_of_ble_eq_true rfl), (Nat.le_of_ble_eq_true rfl)⟩) ?_
                refine W.eq (g2 := F0 m 135 ls [.long q27, .long 4]) rfl ?_
                refine lv_lmul hx hb d_Bc_clash_135 ?_
                refine lv_lload hx hb d_Bc_clash_136 (lv_at hl 0 rfl) ?_
                refine W.lcmp hx hb d_Bc_clash_138 ?_
                refine lv_if_ge (tgt := 146) hx hb d_Bc_clash_139 (by decide) (fun c28 => ?_) (fun c28 => ?_)
                · have c28 := (lg_cmp_ge _ _).mp c28
                  have hf := op_t hf c28
                  refine lv_iconst (v := 0) hx hb d_Bc_clash_146 (by decide) ?_
                  obtain rfl := Option.some.inj hf
                  subst hQ
                  subst hAe
                  exact W.iret (v := 0) hx hb hr (fun t ht hW => ⟨⟨_, _, rfl, ⟨rfl, rfl⟩, by rw [ht]; exact hP, hD⟩, hS.F ht⟩) hS.2.2 d_Bc_clash_147
                · have c28 := fun h9 => c28 ((lg_cmp_ge _ _).mpr h9)
                  have hf := op_e hf c28
                  refine lv_iconst (v := 1) hx hb d_Bc_clash_142 (by decide) ?_
                  refine lv_goto (tgt := 147) hx hb d_Bc_clash_143 (by decide) ?_
                  obtain rfl := Option.some.inj hf
                  subst hQ
                  subst hAe
                  exact W.iret (v := 1) hx hb hr (fun t ht hW => ⟨⟨_, _, rfl, ⟨rfl, rfl⟩, by rw [ht]; exact hP, hD⟩, hS.F ht⟩) hS.2.2 d_Bc_clash_147
              · have hf := op_t hf c17
                refine lv_iconst (v := (-1)) hx hb d_Bc_clash_59 (by decide) ?_
                obtain rfl := Option.some.inj hf
                subst hQ
                subst hAe
                exact W.iret (v := (-1)) hx hb hr (fun t ht hW => ⟨⟨_, _, rfl, ⟨rfl, rfl⟩, by rw [ht]; exact hP, hD⟩, hS.F ht⟩) hS.2.2 d_Bc_clash_60
      · have hf := op_t hf c7
        refine lv_iconst (v := (-1)) hx hb d_Bc_clash_27 (by decide) ?_
        obtain rfl := Option.some.inj hf
        subst hQ
        subst hAe
        exact W.iret (v := (-1)) hx hb hr (fun t ht hW => ⟨⟨_, _, rfl, ⟨rfl, rfl⟩, by rw [ht]; exact hP, hD⟩, hS.F ht⟩) hS.2.2 d_Bc_clash_28
def f_Bc_lap (nl : Nat) (nT : Nat → Nat) (LS : Nat → MS) (TS : Nat → MS) (FP : Nat → Bool) (FS : Nat → MS) (bc : MS) (sg : MS) (tr : MS) (tu : MS) (ff : MS) (pl : MS) (lw : MS) (p1 : Int32) (p2 : Int64) : Option (Int32) := (f_Bc_lineAt nl nT LS TS FP FS bc sg tr tu ff pl lw p1).bind fun q1 => q1.elim (some (-1)) (fun i2 => (if p2 < 0 then some (-1) else (if p2 ≤ 5000 then if ix (((LS i2).1 1) - 4) 37 then (if FP ((((LS i2).1 1) - 4).toNatClampNeg) = true then (f_Sf_greatest (FS ((((LS i2).1 1) - 4).toNatClampNeg))).bind fun q8 => (some (q8 - p2.toInt32) : Option Int32).bind fun v10 => (if 1 ≤ v10 then (f_Bc_cutLength nl nT LS TS FP FS bc sg tr tu ff pl lw i2).bind fun q12 => (some (q12 - q8) : Option Int32).bind fun v13 => (if 0 < v13 then if v10 = 0 then none else some (((v13 + v10) - 1) / v10) else some 0) else some (-1)) else some (-1)) else none else some (-1))))
def rm_Bc_lap : Room := { frames := 2, cells := 0, slots := 0, locals := 52 }
set_option maxHeartbeats 4000000 in
set_option maxRecDepth 100000 in
theorem m_Bc_lap (l : Launch) (dC : Nat → ClassId) (dI : Nat → Nat → Nat) (tC : Nat → ClassId) (TL : va_W) (nl : Nat) (hL : Nat → Nat) (adL aT : Nat → Nat → Nat) (nT : Nat → Nat) (LS TS : Nat → MS) (FP : Nat → Bool) (hF : Nat → Nat) (adF : Nat → Nat → Nat) (FS : Nat → MS) (rf : Nat → Nat → Option Nat) (h_bc : Nat) (ad_bc : Nat → Nat) (bc : MS) (ad_sg : Nat → Nat) (sg : MS) (ad_tr : Nat → Nat) (tr : MS) (ad_tu : Nat → Nat) (tu : MS) (ad_ff : Nat → Nat) (ff : MS) (ad_pl : Nat → Nat) (pl : MS) (ad_lw : Nat → Nat) (lw : MS) (p1 : Int32) (p2 : Int64) (R : Int32) (H : Heap) (hFM : FM tC TL nl hL adL aT nT LS TS FP hF adF FS rf) (hP : va_P (dC, dI) vwCl (w_Bc_ h_bc ad_bc tC rf bc ++ (w_Sg_ (ad_bc 100) ad_sg tC sg ++ (w_Tr_ (ad_bc 104) ad_tr tC tr ++ (w_Tr_ (ad_bc 105) ad_tu tC tu ++ (w_Ff_ (ad_bc 103) ad_ff tC ff ++ (w_Pl_ (ad_bc 101) ad_pl tC pl ++ (w_Lw_ (ad_bc 102) ad_lw tC lw ++ TL))))))) H) (hf : f_Bc_lap nl nT LS TS FP FS bc sg tr tu ff pl lw p1 p2 = some R) : Met l y_Bc_lap w_Bc_lap rm_Bc_lap (roP (dC, dI) tC H [.ref h_bc, .int p1, .long p2]) (roQ H (some (.int R))) 0 0 (fun _ => False) := by
  refine Met.ofW (cc := c_Bc_lap) (maxL := 9) (ret := (some (.int))) (by decide) rfl ?_
  intro p e s m args below meth c s₁ B hml hv
  obtain ⟨hav, hH, hK⟩ := hv
  have hx := B.exec
  have hb := B.bytes
  have hr := B.returns
  have hts : ∀ w ∈ gw, w.before args s = true := fun w h => atoms_spec (ws := w_Bc_lap) B.pre w (List.mem_cons_of_mem _ h)
  have hown : s.vm.findClass RX8 = some m.cls := findClass_of_methodNamed B.named
  have hlocks := B.notSynchronized
  subst hH
  refine q_w (R := rm_Bc_lap) (fun Q hQ => ?_)
  refine en_w (av := [.ref h_bc, .int p1, .long p2]) hav (Nat.le_of_ble_eq_true rfl) (fun ls hl => ?_)
  have hl : lv_has ls 9 [(0, .ref h_bc), (1, .int p1), (2, .long p2)] := hl
  unfold f_Bc_lap at hf
  refine lv_aload_n hx hb d_Bc_lap_0 rfl (lv_at hl 0 rfl) ?_
  refine lv_iload_n hx hb d_Bc_lap_1 rfl (lv_at hl 1 rfl) ?_
  obtain ⟨q1, hq1, hf⟩ := op_b hf
  refine ro_go rfl (va_runV (As := [.int p1]) (rest := []) ⟨hx, hb, hml, hown, hts⟩ (m_Bc_lineAt l dC dI tC TL nl hL adL aT nT LS TS FP hF adF FS rf h_bc ad_bc bc ad_sg sg ad_tr tr ad_tu tu ad_ff ff ad_pl pl ad_lw lw p1  q1 _ hFM hP hq1) (cwV 1 hts (gd_V kM_8_102 kI_Bc_lineAt kV_Bc_lineAt kZ_8 kC_Bc_lineAt) rfl rfl rfl (by decide +kernel) ⟨(Nat.le_of_ble_eq_true rfl), (Nat.le_of_ble_eq_true rfl)⟩) ⟨ro_blind, va_recv hK hP (ci := 8) (q0 := 0) rfl rfl, ro_pre hK⟩ rfl rfl hl.1 rfl (lv_room (Nat.le_of_ble_eq_true rfl)) d_Bc_lap_2 ⟨(Nat.le_of_ble_eq_true rfl), (Nat.le_of_ble_eq_true rfl)⟩) ?_
  have hltq1 := lineAt_lt hq1
  rcases q1 with _ | i2
  · have hf := oe_n hf
    refine W.eq (g2 := F0 m 5 ls [.null]) rfl ?_
    refine lv_astoreN (lv' := [(4, .null), (0, .ref h_bc), (1, .int p1), (2, .long p2)]) hx hb d_Bc_lap_5 hl (by decide) rfl (fun ls hl => ?_)
    refine lv_aloadN hx hb d_Bc_lap_7 (lv_at hl 0 rfl) ?_
    refine lv_ifnullN (tgt := 26) hx hb d_Bc_lap_9 (by decide) ?_
    refine lv_iconst (v := (-1)) hx hb d_Bc_lap_26 (by decide) ?_
    obtain rfl := Option.some.inj hf
    subst hQ
    exact W.iret (v := (-1)) hx hb hr (fun t ht hW => ⟨rfl, ht⟩) (fun q h => by cases h) d_Bc_lap_27
  · have hf := oe_s hf
    have hi2 := hltq1 i2 rfl
    refine W.eq (g2 := F0 m 5 ls [.ref (hL i2)]) rfl ?_
    refine lv_astore (lv' := [(4, .ref (hL i2)), (0, .ref h_bc), (1, .int p1), (2, .long p2)]) hx hb d_Bc_lap_5 hl (by decide) rfl (fun ls hl => ?_)
    refine lv_aload hx hb d_Bc_lap_7 (lv_at hl 0 rfl) ?_
    refine lv_ifnull hx hb d_Bc_lap_9 ?_
    refine lv_lload_n hx hb d_Bc_lap_12 rfl (lv_at hl 3 rfl) ?_
    refine lv_lconst (v := 0) hx hb d_Bc_lap_13 (by decide) ?_
    refine W.lcmp hx hb d_Bc_lap_14 ?_
    refine lv_if_lt (tgt := 26) hx hb d_Bc_lap_15 (by decide) (fun c3 => ?_) (fun c3 => ?_)
    · have c3 := (lg_cmp_lt _ _).mp c3
      have hf := op_t hf c3
      refine lv_iconst (v := (-1)) hx hb d_Bc_lap_26 (by decide) ?_
      obtain rfl := Option.some.inj hf
      subst hQ
      exact W.iret (v := (-1)) hx hb hr (fun t ht hW => ⟨rfl, ht⟩) (fun q h => by cases h) d_Bc_lap_27
    · have c3 := fun h9 => c3 ((lg_cmp_lt _ _).mpr h9)
      have hf := op_e hf c3
      refine lv_lload_n hx hb d_Bc_lap_18 rfl (lv_at hl 3 rfl) ?_
      refine lv_ldc2 (v := 5000) hx hb hown (hts _ kK_8_216) d_Bc_lap_19 ?_
      refine W.lcmp hx hb d_Bc_lap_22 ?_
      refine lv_if_le (tgt := 28) hx hb d_Bc_lap_23 (by decide) (fun c4 => ?_) (fun c4 => ?_)
      · have c4 := (lg_cmp_le _ _).mp c4
        have hf := op_t hf c4
        refine lv_aload_n hx hb d_Bc_lap_28 rfl (lv_at hl 1 rfl) ?_
        refine va_get (D := (dC, dI)) (ci := 8) (v := .ref (ad_bc 3)) (C := RX8) (T := TX8) (N := 12) hx hb hts in_X8 hown hK hP 0 rfl rfl 4 (by decide) (hts _ kF_8_34) (fun _ h9 => h9) rfl d_Bc_lap_29 ?_
        refine lv_aload hx hb d_Bc_lap_32 (lv_at hl 0 rfl) ?_
        obtain ⟨k5, hk5⟩ := List.getElem?_of_mem (List.mem_append_right _ (List.mem_append_right _ (List.mem_append_right _ (List.mem_append_right _ (List.mem_append_right _ (List.mem_append_right _ (List.mem_append_right _ ((hFM.1 i2 hi2) _ (List.mem_of_getElem? (i := 0) rfl)))))))))
        refine va_get (D := (dC, dI)) (ci := 2) (v := .int ((LS i2).1 1)) (C := RX2) (T := TX2) (N := 9) hx hb hts in_X2 hown hK hP k5 hk5 rfl 2 (by decide) (hts _ kF_8_129) (fun _ h9 => h9) rfl d_Bc_lap_34 ?_
        refine lv_iconst (v := 4) hx hb d_Bc_lap_37 (by decide) ?_
        refine lv_isub hx hb d_Bc_lap_38 ?_
        obtain ⟨hi6, hf⟩ := op_if hf
        refine va_aldq (f := rf 2) hx hb hK hP 4 6 rfl rfl (ix_in hi6) d_Bc_lap_39 ?_
        by_cases hg7 : FP ((((LS i2).1 1) - 4).toNatClampNeg) = true
        · have hf := op_t hf hg7
          refine rw_s (hFM.2.2.2.2.1 _ hg7) ?_
          refine lv_astore (lv' := [(5, .ref (hF ((((LS i2).1 1) - 4).toNatClampNeg))), (4, .ref (hL i2)), (0, .ref h_bc), (1, .int p1), (2, .long p2)]) hx hb d_Bc_lap_40 hl (by decide) rfl (fun ls hl => ?_)
          refine lv_aload hx hb d_Bc_lap_42 (lv_at hl 0 rfl) ?_
          refine lv_ifnonnull (tgt := 49) hx hb d_Bc_lap_44 (by decide) ?_
          refine lv_aload hx hb d_Bc_lap_49 (lv_at hl 0 rfl) ?_
          obtain ⟨q8, hq8, hf⟩ := op_b hf
          obtain ⟨k9, hk9⟩ := List.getElem?_of_mem (List.mem_append_right _ (List.mem_append_right _ (List.mem_append_right _ (List.mem_append_right _ (List.mem_append_right _ (List.mem_append_right _ (List.mem_append_right _ ((hFM.2.2.2.1 ((((LS i2).1 1) - 4).toNatClampNeg) hg7) _ (List.mem_of_getElem? (i := 0) rfl)))))))))
          refine ro_go rfl (va_runV (As := []) (rest := []) ⟨hx, hb, hml, hown, hts⟩ (m_Sf_greatest l dC dI tC (hF ((((LS i2).1 1) - 4).toNatClampNeg)) (adF ((((LS i2).1 1) - 4).toNatClampNeg)) (FS ((((LS i2).1 1) - 4).toNatClampNeg)) q8 _ (va_P_in hP (fun q h => (List.mem_append_right _ (List.mem_append_right _ (List.mem_append_right _ (List.mem_append_right _ (List.mem_append_right _ (List.mem_append_right _ (List.mem_append_right _ ((hFM.2.2.2.1 ((((LS i2).1 1) - 4).toNatClampNeg) hg7) q h)))))))))) hq8) (cwV 0 hts (gd_V kM_8_218 kI_Sf_greatest kV_Sf_greatest kZ_5 kC_Sf_greatest) rfl rfl rfl (by decide +kernel) ⟨(Nat.le_of_ble_eq_true rfl), (Nat.le_of_ble_eq_true rfl)⟩) ⟨ro_blind, va_recv hK hP (ci := 5) (q0 := k9) rfl hk9, ro_pre hK⟩ rfl rfl hl.1 rfl (lv_room (Nat.le_of_ble_eq_true rfl)) d_Bc_lap_51 ⟨(Nat.le_of_ble_eq_true rfl), (Nat.le_of_ble_eq_true rfl)⟩) ?_
          refine W.eq (g2 := F0 m 54 ls [.int q8]) rfl ?_
          refine lv_istore (lv' := [(6, .int q8), (5, .ref (hF ((((LS i2).1 1) - 4).toNatClampNeg))), (4, .ref (hL i2)), (0, .ref h_bc), (1, .int p1), (2, .long p2)]) hx hb d_Bc_lap_54 hl (by decide) rfl (fun ls hl => ?_)
          refine lv_iload hx hb d_Bc_lap_56 (lv_at hl 0 rfl) ?_
          refine lv_lload_n hx hb d_Bc_lap_58 rfl (lv_at hl 5 rfl) ?_
          refine lv_l2i (v := p2.toInt32) hx hb d_Bc_lap_59 rfl ?_
          refine lv_isub hx hb d_Bc_lap_60 ?_
          obtain ⟨v10, hv10, hf⟩ := op_b hf
          refine rw_i (y := v10) (Option.some.inj hv10) ?_
          refine lv_istore (lv' := [(7, .int v10), (6, .int q8), (5, .ref (hF ((((LS i2).1 1) - 4).toNatClampNeg))), (4, .ref (hL i2)), (0, .ref h_bc), (1, .int p1), (2, .long p2)]) hx hb d_Bc_lap_61 hl (by decide) rfl (fun ls hl => ?_)
          refine lv_iload hx hb d_Bc_lap_63 (lv_at hl 0 rfl) ?_
          refine lv_iconst (v := 1) hx hb d_Bc_lap_65 (by decide) ?_
          refine lv_icmp_ge (tgt := 71) hx hb d_Bc_lap_66 (by decide) (fun c11 => ?_) (fun c11 => ?_)
          · have hf := op_t hf c11
            refine lv_aload_n hx hb d_Bc_lap_71 rfl (lv_at hl 4 rfl) ?_
            refine lv_aload hx hb d_Bc_lap_72 (lv_at hl 3 rfl) ?_
            obtain ⟨q12, hq12, hf⟩ := op_b hf
            refine ro_go rfl (va_runV (As := [.ref (hL i2)]) (rest := []) ⟨hx, hb, hml, hown, hts⟩ (m_Bc_cutLength l dC dI tC TL nl hL adL aT nT LS TS FP hF adF FS rf h_bc ad_bc bc ad_sg sg ad_tr tr ad_tu tu ad_ff ff ad_pl pl ad_lw lw i2 hi2 q12 _ hFM hP hq12) (cwV 1 hts (gd_V kM_8_119 kI_Bc_cutLength kV_Bc_cutLength kZ_8 kC_Bc_cutLength) rfl rfl rfl (by decide +kernel) ⟨(Nat.le_of_ble_eq_true rfl), (Nat.le_of_ble_eq_true rfl)⟩) ⟨ro_blind, va_recv hK hP (ci := 8) (q0 := 0) rfl rfl, ro_pre hK⟩ rfl rfl hl.1 rfl (lv_room (Nat.le_of_ble_eq_true rfl)) d_Bc_lap_74 ⟨(Nat.le_of_ble_eq_true rfl), (Nat.le_of_ble_eq_true rfl)⟩) ?_
            refine W.eq (g2 := F0 m 77 ls [.int q12]) rfl ?_
            refine lv_iload hx hb d_Bc_lap_77 (lv_at hl 1 rfl) ?_
            refine lv_isub hx hb d_Bc_lap_79 ?_
            obtain ⟨v13, hv13, hf⟩ := op_b hf
            refine rw_i (y := v13) (Option.some.inj hv13) ?_
            refine lv_istore (lv' := [(8, .int v13), (7, .int v10), (6, .int q8), (5, .ref (hF ((((LS i2).1 1) - 4).toNatClampNeg))), (4, .ref (hL i2)), (0, .ref h_bc), (1, .int p1), (2, .long p2)]) hx hb d_Bc_lap_80 hl (by decide) rfl (fun ls hl => ?_)
            refine lv_iload hx hb d_Bc_lap_82 (lv_at hl 0 rfl) ?_
            refine lv_if_gt (tgt := 91) hx hb d_Bc_lap_84 (by decide) (fun c14 => ?_) (fun c14 => ?_)
            · have hf := op_t hf c14
              refine lv_iload hx hb d_Bc_lap_91 (lv_at hl 0 rfl) ?_
              refine lv_iload hx hb d_Bc_lap_93 (lv_at hl 1 rfl) ?_
              refine lv_iadd hx hb d_Bc_lap_95 ?_
              refine lv_iconst (v := 1) hx hb d_Bc_lap_96 (by decide) ?_
              refine lv_isub hx hb d_Bc_lap_97 ?_
              refine lv_iload hx hb d_Bc_lap_98 (lv_at hl 1 rfl) ?_
              obtain ⟨hz15, hf⟩ := op_nif hf
              refine lv_idiv hx hb d_Bc_lap_100 hz15 ?_
              obtain rfl := Option.some.inj hf
              subst hQ
              exact W.iret (v := ((v13 + v10) - 1) / v10) hx hb hr (fun t ht hW => ⟨rfl, ht⟩) (fun q h => by cases h) d_Bc_lap_101
            · have hf := op_e hf c14
              refine lv_iconst (v := 0) hx hb d_Bc_lap_87 (by decide) ?_
              refine lv_goto (tgt := 101) hx hb d_Bc_lap_88 (by decide) ?_
              obtain rfl := Option.some.inj hf
              subst hQ
              exact W.iret (v := 0) hx hb hr (fun t ht hW => ⟨rfl, ht⟩) (fun q h => by cases h) d_Bc_lap_101
          · have hf := op_e hf c11
            refine lv_iconst (v := (-1)) hx hb d_Bc_lap_69 (by decide) ?_
            obtain rfl := Option.some.inj hf
            subst hQ
            exact W.iret (v := (-1)) hx hb hr (fun t ht hW => ⟨rfl, ht⟩) (fun q h => by cases h) d_Bc_lap_70
        · have hf := op_e hf hg7
          refine rw_n (hFM.2.2.2.2.2.1 _ (Bool.eq_false_iff.mpr hg7)) ?_
          refine lv_astoreN (lv' := [(5, .null), (4, .ref (hL i2)), (0, .ref h_bc), (1, .int p1), (2, .long p2)]) hx hb d_Bc_lap_40 hl (by decide) rfl (fun ls hl => ?_)
          refine lv_aloadN hx hb d_Bc_lap_42 (lv_at hl 0 rfl) ?_
          refine lv_ifnonnullN hx hb d_Bc_lap_44 ?_
          refine lv_iconst (v := (-1)) hx hb d_Bc_lap_47 (by decide) ?_
          obtain rfl := Option.some.inj hf
          subst hQ
          exact W.iret (v := (-1)) hx hb hr (fun t ht hW => ⟨rfl, ht⟩) (fun q h => by cases h) d_Bc_lap_48
      · have c4 := fun h9 => c4 ((lg_cmp_le _ _).mpr h9)
        have hf := op_e hf c4
        refine lv_iconst (v := (-1)) hx hb d_Bc_lap_26 (by decide) ?_
        obtain rfl := Option.some.inj hf
        subst hQ
        exact W.iret (v := (-1)) hx hb hr (fun t ht hW => ⟨rfl, ht⟩) (fun q h => by cases h) d_Bc_lap_27
def f_Bc_weight (nl : Nat) (nT : Nat → Nat) (LS : Nat → MS) (TS : Nat → MS) (FP : Nat → Bool) (FS : Nat → MS) (bc : MS) (sg : MS) (tr : MS) (tu : MS) (ff : MS) (pl : MS) (lw : MS) (p1 : Int32) (p2 : Int32) : Option (Int64) := (f_Bc_lineAt nl nT LS TS FP FS bc sg tr tu ff pl lw p1).bind fun q1 => q1.elim (some (-1)) (fun i2 => (f_Bc_cutLength nl nT LS TS FP FS bc sg tr tu ff pl lw i2).bind fun q5 => (some ((((((LS i2).1 1).toInt64) * (((LS i2).1 1).toInt64)) * q5.toInt64) * (((LS i2).1 2).toInt64)) : Option Int64).bind fun v7 => (f_Bc_greatestCommonWithDivisor v7).bind fun q8 => (if p2 = 0 then if q8.toInt64 = 0 then none else some (v7 / q8.toInt64) else (if p2 = 1 then if q8 = 0 then none else some ((162 / q8).toInt64) else some (-1))))
def rm_Bc_weight : Room := { frames := 2, cells := 0, slots := 0, locals := 52 }
set_option maxHeartbeats 4000000 in
set_option maxRecDepth 100000 in
theorem m_Bc_weight (l : Launch) (dC : Nat → ClassId) (dI : Nat → Nat → Nat) (tC : Nat → ClassId) (TL : va_W) (nl : Nat) (hL : Nat → Nat) (adL aT : Nat → Nat → Nat) (nT : Nat → Nat) (LS TS : Nat → MS) (FP : Nat → Bool) (hF : Nat → Nat) (adF : Nat → Nat → Nat) (FS : Nat → MS) (rf : Nat → Nat → Option Nat) (h_bc : Nat) (ad_bc : Nat → Nat) (bc : MS) (ad_sg : Nat → Nat) (sg : MS) (ad_tr : Nat → Nat) (tr : MS) (ad_tu : Nat → Nat) (tu : MS) (ad_ff : Nat → Nat) (ff : MS) (ad_pl : Nat → Nat) (pl : MS) (ad_lw : Nat → Nat) (lw : MS) (p1 : Int32) (p2 : Int32) (R : Int64) (H : Heap) (hFM : FM tC TL nl hL adL aT nT LS TS FP hF adF FS rf) (hP : va_P (dC, dI) vwCl (w_Bc_ h_bc ad_bc tC rf bc ++ (w_Sg_ (ad_bc 100) ad_sg tC sg ++ (w_Tr_ (ad_bc 104) ad_tr tC tr ++ (w_Tr_ (ad_bc 105) ad_tu tC tu ++ (w_Ff_ (ad_bc 103) ad_ff tC ff ++ (w_Pl_ (ad_bc 101) ad_pl tC pl ++ (w_Lw_ (ad_bc 102) ad_lw tC lw ++ TL))))))) H) (hf : f_Bc_weight nl nT LS TS FP FS bc sg tr tu ff pl lw p1 p2 = some R) : Met l y_Bc_weight w_Bc_weight rm_Bc_weight (roP (dC, dI) tC H [.ref h_bc, .int p1, .int p2]) (roQ H (some (.long R))) 0 0 (fun _ => False) := by
  refine Met.ofW (cc := c_Bc_weight) (maxL := 7) (ret := (some (.long))) (by decide) rfl ?_
  intro p e s m args below meth c s₁ B hml hv
  obtain ⟨hav, hH, hK⟩ := hv
  have hx := B.exec
  have hb := B.bytes
  have hr := B.returns
  have hts : ∀ w ∈ gw, w.before args s = true := fun w h => atoms_spec (ws := w_Bc_weight) B.pre w (List.mem_cons_of_mem _ h)
  have hown : s.vm.findClass RX8 = some m.cls := findClass_of_methodNamed B.named
  have hlocks := B.notSynchronized
  subst hH
  refine q_w (R := rm_Bc_weight) (fun Q hQ => ?_)
  refine en_w (av := [.ref h_bc, .int p1, .int p2]) hav (Nat.le_of_ble_eq_true rfl) (fun ls hl => ?_)
  have hl : lv_has ls 7 [(0, .ref h_bc), (1, .int p1), (2, .int p2)] := hl
  unfold f_Bc_weight at hf
  refine lv_aload_n hx hb d_Bc_weight_0 rfl (lv_at hl 0 rfl) ?_
  refine lv_iload_n hx hb d_Bc_weight_1 rfl (lv_at hl 1 rfl) ?_
  obtain ⟨q1, hq1, hf⟩ := op_b hf
  refine ro_go rfl (va_runV (As := [.int p1]) (rest := []) ⟨hx, hb, hml, hown, hts⟩ (m_Bc_lineAt l dC dI tC TL nl hL adL aT nT LS TS FP hF adF FS rf h_bc ad_bc bc ad_sg sg ad_tr tr ad_tu tu ad_ff ff ad_pl pl ad_lw lw p1  q1 _ hFM hP hq1) (cwV 1 hts (gd_V kM_8_102 kI_Bc_lineAt kV_Bc_lineAt kZ_8 kC_Bc_lineAt) rfl rfl rfl (by decide +kernel) ⟨(Nat.le_of_ble_eq_true rfl), (Nat.le_of_ble_eq_true rfl)⟩) ⟨ro_blind, va_recv hK hP (ci := 8) (q0 := 0) rfl rfl, ro_pre hK⟩ rfl rfl hl.1 rfl (lv_room (Nat.le_of_ble_eq_true rfl)) d_Bc_weight_2 ⟨(Nat.le_of_ble_eq_true rfl), (Nat.le_of_ble_eq_true rfl)⟩) ?_
  have hltq1 := lineAt_lt hq1
  rcases q1 with _ | i2
  · have hf := oe_n hf
    refine W.eq (g2 := F0 m 5 ls [.null]) rfl ?_
    refine lv_astore_nN (lv' := [(3, .null), (0, .ref h_bc), (1, .int p1), (2, .int p2)]) hx hb d_Bc_weight_5 rfl hl (by decide) rfl (fun ls hl => ?_)
    refine lv_aload_nN hx hb d_Bc_weight_6 rfl (lv_at hl 0 rfl) ?_
    refine lv_ifnonnullN hx hb d_Bc_weight_7 ?_
    refine lv_ldc2 (v := (-1)) hx hb hown (hts _ kK_8_117) d_Bc_weight_10 ?_
    obtain rfl := Option.some.inj hf
    subst hQ
    exact W.lret (v := (-1)) hx hb hr (fun t ht hW => ⟨rfl, ht⟩) (fun q h => by cases h) d_Bc_weight_13
  · have hf := oe_s hf
    have hi2 := hltq1 i2 rfl
    refine W.eq (g2 := F0 m 5 ls [.ref (hL i2)]) rfl ?_
    refine lv_astore_n (lv' := [(3, .ref (hL i2)), (0, .ref h_bc), (1, .int p1), (2, .int p2)]) hx hb d_Bc_weight_5 rfl hl (by decide) rfl (fun ls hl => ?_)
    refine lv_aload_n hx hb d_Bc_weight_6 rfl (lv_at hl 0 rfl) ?_
    refine lv_ifnonnull (tgt := 14) hx hb d_Bc_weight_7 (by decide) ?_
    refine lv_aload_n hx hb d_Bc_weight_14 rfl (lv_at hl 0 rfl) ?_
    obtain ⟨k3, hk3⟩ := List.getElem?_of_mem (List.mem_append_right _ (List.mem_append_right _ (List.mem_append_right _ (List.mem_append_right _ (List.mem_append_right _ (List.mem_append_right _ (List.mem_append_right _ ((hFM.1 i2 hi2) _ (List.mem_of_getElem? (i := 0) rfl)))))))))
    refine va_get (D := (dC, dI)) (ci := 2) (v := .int ((LS i2).1 1)) (C := RX2) (T := TX2) (N := 9) hx hb hts in_X2 hown hK hP k3 hk3 rfl 2 (by decide) (hts _ kF_8_129) (fun _ h9 => h9) rfl d_Bc_weight_15 ?_
    refine lv_i2l (v := ((LS i2).1 1).toInt64) hx hb d_Bc_weight_18 rfl ?_
    refine lv_aload_n hx hb d_Bc_weight_19 rfl (lv_at hl 0 rfl) ?_
    obtain ⟨k4, hk4⟩ := List.getElem?_of_mem (List.mem_append_right _ (List.mem_append_right _ (List.mem_append_right _ (List.mem_append_right _ (List.mem_append_right _ (List.mem_append_right _ (List.mem_append_right _ ((hFM.1 i2 hi2) _ (List.mem_of_getElem? (i := 0) rfl)))))))))
    refine va_get (D := (dC, dI)) (ci := 2) (v := .int ((LS i2).1 1)) (C := RX2) (T := TX2) (N := 9) hx hb hts in_X2 hown hK hP k4 hk4 rfl 2 (by decide) (hts _ kF_8_129) (fun _ h9 => h9) rfl d_Bc_weight_20 ?_
    refine lv_i2l (v := ((LS i2).1 1).toInt64) hx hb d_Bc_weight_23 rfl ?_
    refine lv_lmul hx hb d_Bc_weight_24 ?_
    refine lv_aload_n hx hb d_Bc_weight_25 rfl (lv_at hl 1 rfl) ?_
    refine lv_aload_n hx hb d_Bc_weight_26 rfl (lv_at hl 0 rfl) ?_
    obtain ⟨q5, hq5, hf⟩ := op_b hf
    refine ro_go rfl (va_runV (As := [.ref (hL i2)]) (rest := [.long ((((LS i2).1 1).toInt64) * (((LS i2).1 1).toInt64))]) ⟨hx, hb, hml, hown, hts⟩ (m_Bc_cutLength l dC dI tC TL nl hL adL aT nT LS TS FP hF adF FS rf h_bc ad_bc bc ad_sg sg ad_tr tr ad_tu tu ad_ff ff ad_pl pl ad_lw lw i2 hi2 q5 _ hFM hP hq5) (cwV 1 hts (gd_V kM_8_119 kI_Bc_cutLength kV_Bc_cutLength kZ_8 kC_Bc_cutLength) rfl rfl rfl (by decide +kernel) ⟨(Nat.le_of_ble_eq_true rfl), (Nat.le_of_ble_eq_true rfl)⟩) ⟨ro_blind, va_recv hK hP (ci := 8) (q0 := 0) rfl rfl, ro_pre hK⟩ rfl rfl hl.1 rfl (lv_room (Nat.le_of_ble_eq_true rfl)) d_Bc_weight_27 ⟨(Nat.le_of_ble_eq_true rfl), (Nat.le_of_ble_eq_true rfl)⟩) ?_
    refine W.eq (g2 := F0 m 30 ls [.int q5, .long ((((LS i2).1 1).toInt64) * (((LS i2).1 1).toInt64))]) rfl ?_
    refine lv_i2l (v := q5.toInt64) hx hb d_Bc_weight_30 rfl ?_
    refine lv_lmul hx hb d_Bc_weight_31 ?_
    refine lv_aload_n hx hb d_Bc_weight_32 rfl (lv_at hl 0 rfl) ?_
    obtain ⟨k6, hk6⟩ := List.getElem?_of_mem (List.mem_append_right _ (List.mem_append_right _ (List.mem_append_right _ (List.mem_append_right _ (List.mem_append_right _ (List.mem_append_right _ (List.mem_append_right _ ((hFM.1 i2 hi2) _ (List.mem_of_getElem? (i := 0) rfl)))))))))
    refine va_get (D := (dC, dI)) (ci := 2) (v := .int ((LS i2).1 2)) (C := RX2) (T := TX2) (N := 9) hx hb hts in_X2 hown hK hP k6 hk6 rfl 3 (by decide) (hts _ kF_8_123) (fun _ h9 => h9) rfl d_Bc_weight_33 ?_
    refine lv_i2l (v := ((LS i2).1 2).toInt64) hx hb d_Bc_weight_36 rfl ?_
    refine lv_lmul hx hb d_Bc_weight_37 ?_
    obtain ⟨v7, hv7, hf⟩ := op_b hf
    refine rw_l (y := v7) (Option.some.inj hv7) ?_
    refine lv_lstore (lv' := [(4, .long v7), (3, .ref (hL i2)), (0, .ref h_bc), (1, .int p1), (2, .int p2)]) hx hb d_Bc_weight_38 hl (by decide) rfl (fun ls hl => ?_)
    refine lv_lload hx hb d_Bc_weight_40 (lv_at hl 0 rfl) ?_
    obtain ⟨q8, hq8, hf⟩ := op_b hf
    refine ro_go rfl (va_runS (As := [.long v7]) (rest := []) ⟨hx, hb, hml, hown, hts⟩ (m_Bc_greatestCommonWithDivisor l dC dI tC v7 q8 _  hq8) (cwS 1 hts (gd_S kM_8_221 kS_Bc_greatestCommonWithDivisor kZ_8 kC_Bc_greatestCommonWithDivisor) rfl rfl rfl (by decide +kernel) ⟨(Nat.le_of_ble_eq_true rfl), (Nat.le_of_ble_eq_true rfl)⟩) ⟨ro_blind, ro_pre hK⟩ rfl rfl hl.1 rfl (lv_room (Nat.le_of_ble_eq_true rfl)) d_Bc_weight_42 ⟨(Nat.le_of_ble_eq_true rfl), (Nat.le_of_ble_eq_true rfl)⟩) ?_
    refine W.eq (g2 := F0 m 45 ls [.int q8]) rfl ?_
    refine lv_istore (lv' := [(6, .int q8), (4, .long v7), (3, .ref (hL i2)), (0, .ref h_bc), (1, .int p1), (2, .int p2)]) hx hb d_Bc_weight_45 hl (by decide) rfl (fun ls hl => ?_)
    refine lv_iload_n hx hb d_Bc_weight_47 rfl (lv_at hl 5 rfl) ?_
    by_cases c11 : p2 = 0
    · refine lv_lookup (tgt := 76) (off := 28) hx hb d_Bc_weight_48 (by decide) (by rw [c11]; decide) (by decide) ?_
      have hf := op_t hf c11
      refine lv_lload hx hb d_Bc_weight_76 (lv_at hl 1 rfl) ?_
      refine lv_iload hx hb d_Bc_weight_78 (lv_at hl 0 rfl) ?_
      refine lv_i2l (v := q8.toInt64) hx hb d_Bc_weight_80 rfl ?_
      obtain ⟨hz9, hf⟩ := op_nif hf
      refine lv_ldiv hx hb d_Bc_weight_81 hz9 ?_
      obtain rfl := Option.some.inj hf
      subst hQ
      exact W.lret (v := v7 / q8.toInt64) hx hb hr (fun t ht hW => ⟨rfl, ht⟩) (fun q h => by cases h) d_Bc_weight_82
    have hf := op_e hf c11
    by_cases c12 : p2 = 1
    · refine lv_lookup (tgt := 83) (off := 35) hx hb d_Bc_weight_48 (by decide) (by rw [c12]; decide) (by decide) ?_
      have hf := op_t hf c12
      refine lv_sipush (v := 162) hx hb d_Bc_weight_83 (by decide) ?_
      refine lv_iload hx hb d_Bc_weight_86 (lv_at hl 0 rfl) ?_
      obtain ⟨hz10, hf⟩ := op_nif hf
      refine lv_idiv hx hb d_Bc_weight_88 hz10 ?_
      refine lv_i2l (v := (162 / q8).toInt64) hx hb d_Bc_weight_89 rfl ?_
      obtain rfl := Option.some.inj hf
      subst hQ
      exact W.lret (v := (162 / q8).toInt64) hx hb hr (fun t ht hW => ⟨rfl, ht⟩) (fun q h => by cases h) d_Bc_weight_90
    have hf := op_e hf c12
    refine lv_lookup (tgt := 91) (off := 43) hx hb d_Bc_weight_48 (by decide) (by show Op.lookupswitch.offset [(0, 28), (1, 35)] 43 (p2).toInt = _; rw [lv_osw c11 (by decide), lv_osw c12 (by decide)]; rfl) (by decide) ?_
    refine lv_ldc2 (v := (-1)) hx hb hown (hts _ kK_8_117) d_Bc_weight_91 ?_
    obtain rfl := Option.some.inj hf
    subst hQ
    exact W.lret (v := (-1)) hx hb hr (fun t ht hW => ⟨rfl, ht⟩) (fun q h => by cases h) d_Bc_weight_94
def f_Bc_tag (nl : Nat) (nT : Nat → Nat) (LS : Nat → MS) (TS : Nat → MS) (FP : Nat → Bool) (FS : Nat → MS) (bc : MS) (sg : MS) (tr : MS) (tu : MS) (ff : MS) (pl : MS) (lw : MS) (p1 : Int32) (p2 : Int32) : Option (Int32) := (f_Bc_lineAt nl nT LS TS FP FS bc sg tr tu ff pl lw p1).bind fun q1 => q1.elim (some (-1)) (fun i2 => (f_Ln_signOfTag (LS i2) (nT i2) (TS i2) p2).bind fun q3 => some q3)
def rm_Bc_tag : Room := { frames := 1, cells := 0, slots := 0, locals := 24 }
set_option maxHeartbeats 4000000 in
set_option maxRecDepth 100000 in
theorem m_Bc_tag (l : Launch) (dC : Nat → ClassId) (dI : Nat → Nat → Nat) (tC : Nat → ClassId) (TL : va_W) (nl : Nat) (hL : Nat → Nat) (adL aT : Nat → Nat → Nat) (nT : Nat → Nat) (LS TS : Nat → MS) (FP : Nat → Bool) (hF : Nat → Nat) (adF : Nat → Nat → Nat) (FS : Nat → MS) (rf : Nat → Nat → Option Nat) (h_bc : Nat) (ad_bc : Nat → Nat) (bc : MS) (ad_sg : Nat → Nat) (sg : MS) (ad_tr : Nat → Nat) (tr : MS) (ad_tu : Nat → Nat) (tu : MS) (ad_ff : Nat → Nat) (ff : MS) (ad_pl : Nat → Nat) (pl : MS) (ad_lw : Nat → Nat) (lw : MS) (p1 : Int32) (p2 : Int32) (R : Int32) (H : Heap) (hFM : FM tC TL nl hL adL aT nT LS TS FP hF adF FS rf) (hP : va_P (dC, dI) vwCl (w_Bc_ h_bc ad_bc tC rf bc ++ (w_Sg_ (ad_bc 100) ad_sg tC sg ++ (w_Tr_ (ad_bc 104) ad_tr tC tr ++ (w_Tr_ (ad_bc 105) ad_tu tC tu ++ (w_Ff_ (ad_bc 103) ad_ff tC ff ++ (w_Pl_ (ad_bc 101) ad_pl tC pl ++ (w_Lw_ (ad_bc 102) ad_lw tC lw ++ TL))))))) H) (hf : f_Bc_tag nl nT LS TS FP FS bc sg tr tu ff pl lw p1 p2 = some R) : Met l y_Bc_tag w_Bc_tag rm_Bc_tag (roP (dC, dI) tC H [.ref h_bc, .int p1, .int p2]) (roQ H (some (.int R))) 0 0 (fun _ => False) := by
  refine Met.ofW (cc := c_Bc_tag) (maxL := 4) (ret := (some (.int))) (by decide) rfl ?_
  intro p e s m args below meth c s₁ B hml hv
  obtain ⟨hav, hH, hK⟩ := hv
  have hx := B.exec
  have hb := B.bytes
  have hr := B.returns
  have hts : ∀ w ∈ gw, w.before args s = true := fun w h => atoms_spec (ws := w_Bc_tag) B.pre w (List.mem_cons_of_mem _ h)
  have hown : s.vm.findClass RX8 = some m.cls := findClass_of_methodNamed B.named
  have hlocks := B.notSynchronized
  subst hH
  refine q_w (R := rm_Bc_tag) (fun Q hQ => ?_)
  refine en_w (av := [.ref h_bc, .int p1, .int p2]) hav (Nat.le_of_ble_eq_true rfl) (fun ls hl => ?_)
  have hl : lv_has ls 4 [(0, .ref h_bc), (1, .int p1), (2, .int p2)] := hl
  unfold f_Bc_tag at hf
  refine lv_aload_n hx hb d_Bc_tag_0 rfl (lv_at hl 0 rfl) ?_
  refine lv_iload_n hx hb d_Bc_tag_1 rfl (lv_at hl 1 rfl) ?_
  obtain ⟨q1, hq1, hf⟩ := op_b hf
  refine ro_go rfl (va_runV (As := [.int p1]) (rest := []) ⟨hx, hb, hml, hown, hts⟩ (m_Bc_lineAt l dC dI tC TL nl hL adL aT nT LS TS FP hF adF FS rf h_bc ad_bc bc ad_sg sg ad_tr tr ad_tu tu ad_ff ff ad_pl pl ad_lw lw p1  q1 _ hFM hP hq1) (cwV 1 hts (gd_V kM_8_102 kI_Bc_lineAt kV_Bc_lineAt kZ_8 kC_Bc_lineAt) rfl rfl rfl (by decide +kernel) ⟨(Nat.le_of_ble_eq_true rfl), (Nat.le_of_ble_eq_true rfl)⟩) ⟨ro_blind, va_recv hK hP (ci := 8) (q0 := 0) rfl rfl, ro_pre hK⟩ rfl rfl hl.1 rfl (lv_room (Nat.le_of_ble_eq_true rfl)) d_Bc_tag_2 ⟨(Nat.le_of_ble_eq_true rfl), (Nat.le_of_ble_eq_true rfl)⟩) ?_
  have hltq1 := lineAt_lt hq1
  rcases q1 with _ | i2
  · have hf := oe_n hf
    refine W.eq (g2 := F0 m 5 ls [.null]) rfl ?_
    refine lv_astore_nN (lv' := [(3, .null), (0, .ref h_bc), (1, .int p1), (2, .int p2)]) hx hb d_Bc_tag_5 rfl hl (by decide) rfl (fun ls hl => ?_)
    refine lv_aload_nN hx hb d_Bc_tag_6 rfl (lv_at hl 0 rfl) ?_
    refine lv_ifnonnullN hx hb d_Bc_tag_7 ?_
    refine lv_iconst (v := (-1)) hx hb d_Bc_tag_10 (by decide) ?_
    refine lv_goto (tgt := 19) hx hb d_Bc_tag_11 (by decide) ?_
    obtain rfl := Option.some.inj hf
    subst hQ
    exact W.iret (v := (-1)) hx hb hr (fun t ht hW => ⟨rfl, ht⟩) (fun q h => by cases h) d_Bc_tag_19
  · have hf := oe_s hf
    have hi2 := hltq1 i2 rfl
    refine W.eq (g2 := F0 m 5 ls [.ref (hL i2)]) rfl ?_
    refine lv_astore_n (lv' := [(3, .ref (hL i2)), (0, .ref h_bc), (1, .int p1), (2, .int p2)]) hx hb d_Bc_tag_5 rfl hl (by decide) rfl (fun ls hl => ?_)
    refine lv_aload_n hx hb d_Bc_tag_6 rfl (lv_at hl 0 rfl) ?_
    refine lv_ifnonnull (tgt := 14) hx hb d_Bc_tag_7 (by decide) ?_
    refine lv_aload_n hx hb d_Bc_tag_14 rfl (lv_at hl 0 rfl) ?_
    refine lv_iload_n hx hb d_Bc_tag_15 rfl (lv_at hl 3 rfl) ?_
    obtain ⟨q3, hq3, hf⟩ := op_b hf
    obtain ⟨k4, hk4⟩ := List.getElem?_of_mem (List.mem_append_right _ (List.mem_append_right _ (List.mem_append_right _ (List.mem_append_right _ (List.mem_append_right _ (List.mem_append_right _ (List.mem_append_right _ ((hFM.1 i2 hi2) _ (List.mem_of_getElem? (i := 0) rfl)))))))))
    refine ro_go rfl (va_runV (As := [.int p2]) (rest := []) ⟨hx, hb, hml, hown, hts⟩ (m_Ln_signOfTag l dC dI tC (hL i2) (adL i2) (LS i2) (aT i2) (nT i2) (TS i2) p2 q3 _ ((va_P_in hP (fun q h => (List.mem_append_right _ (List.mem_append_right _ (List.mem_append_right _ (List.mem_append_right _ (List.mem_append_right _ (List.mem_append_right _ (List.mem_append_right _ ((hFM.1 i2 hi2) q h)))))))))).app (va_P_in hP (fun q h => (List.mem_append_right _ (List.mem_append_right _ (List.mem_append_right _ (List.mem_append_right _ (List.mem_append_right _ (List.mem_append_right _ (List.mem_append_right _ ((hFM.2.1 i2 hi2) q h))))))))))) hq3) (cwV 1 hts (gd_V kM_8_225 kI_Ln_signOfTag kV_Ln_signOfTag kZ_2 kC_Ln_signOfTag) rfl rfl rfl (by decide +kernel) ⟨(Nat.le_of_ble_eq_true rfl), (Nat.le_of_ble_eq_true rfl)⟩) ⟨ro_blind, va_recv hK hP (ci := 2) (q0 := k4) rfl hk4, ro_pre hK⟩ rfl rfl hl.1 rfl (lv_room (Nat.le_of_ble_eq_true rfl)) d_Bc_tag_16 ⟨(Nat.le_of_ble_eq_true rfl), (Nat.le_of_ble_eq_true rfl)⟩) ?_
    refine W.eq (g2 := F0 m 19 ls [.int q3]) rfl ?_
    obtain rfl := Option.some.inj hf
    subst hQ
    exact W.iret (v := q3) hx hb hr (fun t ht hW => ⟨rfl, ht⟩) (fun q h => by cases h) d_Bc_tag_19
def l_Bc_differs_36 : Nat → Int32 → Int32 → Int32 → Int32 → Int32 → Nat → (Nat → Nat) → (Nat → MS) → (Nat → MS) → (Nat → Bool) → (Nat → MS) → Nat → Nat → MS → MS → MS → MS → MS → MS → MS → Option (Int32)
  | 0, _, _, _, _, _, _, _, _, _, _, _, _, _, _, _, _, _, _, _, _ => none
  | n + 1, x1, x2, x3, x6, x7, nl, nT, LS, TS, FP, FS, i6, i2, bc, sg, tr, tu, ff, pl, lw => (if 9 ≤ x7 then some (-1) else (f_Ln_thing (LS i2) x7).bind fun q9 => (f_Ln_thing (LS i6) x7).bind fun q11 => (if q9 = q11 then l_Bc_differs_36 n x1 x2 x3 x6 (x7 + 1) nl nT LS TS FP FS i6 i2 bc sg tr tu ff pl lw else (if x6 = x3 then some x7 else l_Bc_differs_36 n x1 x2 x3 (x6 + 1) (x7 + 1) nl nT LS TS FP FS i6 i2 bc sg tr tu ff pl lw)))
def f_Bc_differs (nl : Nat) (nT : Nat → Nat) (LS : Nat → MS) (TS : Nat → MS) (FP : Nat → Bool) (FS : Nat → MS) (bc : MS) (sg : MS) (tr : MS) (tu : MS) (ff : MS) (pl : MS) (lw : MS) (p1 : Int32) (p2 : Int32) (p3 : Int32) : Option (Int32) := (f_Bc_lineAt nl nT LS TS FP FS bc sg tr tu ff pl lw p1).bind fun q1 => q1.elim ((f_Bc_lineAt nl nT LS TS FP FS bc sg tr tu ff pl lw p2).bind fun q3 => q3.elim (some (-1)) (fun i4 => some (-1))) (fun i2 => (f_Bc_lineAt nl nT LS TS FP FS bc sg tr tu ff pl lw p2).bind fun q5 => q5.elim (some (-1)) (fun i6 => (if 0 ≤ p3 then l_Bc_differs_36 fu p1 p2 p3 0 0 nl nT LS TS FP FS i6 i2 bc sg tr tu ff pl lw else some (-1))))
def rm_Bc_differs : Room := { frames := 1, cells := 0, slots := 0, locals := 22 }
set_option maxHeartbeats 4000000 in
set_option maxRecDepth 100000 in
theorem m_Bc_differs (l : Launch) (dC : Nat → ClassId) (dI : Nat → Nat → Nat) (tC : Nat → ClassId) (TL : va_W) (nl : Nat) (hL : Nat → Nat) (adL aT : Nat → Nat → Nat) (nT : Nat → Nat) (LS TS : Nat → MS) (FP : Nat → Bool) (hF : Nat → Nat) (adF : Nat → Nat → Nat) (FS : Nat → MS) (rf : Nat → Nat → Option Nat) (h_bc : Nat) (ad_bc : Nat → Nat) (bc : MS) (ad_sg : Nat → Nat) (sg : MS) (ad_tr : Nat → Nat) (tr : MS) (ad_tu : Nat → Nat) (tu : MS) (ad_ff : Nat → Nat) (ff : MS) (ad_pl : Nat → Nat) (pl : MS) (ad_lw : Nat → Nat) (lw : MS) (p1 : Int32) (p2 : Int32) (p3 : Int32) (R : Int32) (H : Heap) (hFM : FM tC TL nl hL adL aT nT LS TS FP hF adF FS rf) (hP : va_P (dC, dI) vwCl (w_Bc_ h_bc ad_bc tC rf bc ++ (w_Sg_ (ad_bc 100) ad_sg tC sg ++ (w_Tr_ (ad_bc 104) ad_tr tC tr ++ (w_Tr_ (ad_bc 105) ad_tu tC tu ++ (w_Ff_ (ad_bc 103) ad_ff tC ff ++ (w_Pl_ (ad_bc 101) ad_pl tC pl ++ (w_Lw_ (ad_bc 102) ad_lw tC lw ++ TL))))))) H) (hf : f_Bc_differs nl nT LS TS FP FS bc sg tr tu ff pl lw p1 p2 p3 = some R) : Met l y_Bc_differs w_Bc_differs rm_Bc_differs (roP (dC, dI) tC H [.ref h_bc, .int p1, .int p2, .int p3]) (roQ H (some (.int R))) 0 0 (fun _ => False) := by
  refine Met.ofW (cc := c_Bc_differs) (maxL := 8) (ret := (some (.int))) (by decide) rfl ?_
  intro p e s m args below meth c s₁ B hml hv
  obtain ⟨hav, hH, hK⟩ := hv
  have hx := B.exec
  have hb := B.bytes
  have hr := B.returns
  have hts : ∀ w ∈ gw, w.before args s = true := fun w h => atoms_spec (ws := w_Bc_differs) B.pre w (List.mem_cons_of_mem _ h)
  have hown : s.vm.findClass RX8 = some m.cls := findClass_of_methodNamed B.named
  have hlocks := B.notSynchronized
  subst hH
  refine q_w (R := rm_Bc_differs) (fun Q hQ => ?_)
  refine en_w (av := [.ref h_bc, .int p1, .int p2, .int p3]) hav (Nat.le_of_ble_eq_true rfl) (fun ls hl => ?_)
  have hl : lv_has ls 8 [(0, .ref h_bc), (1, .int p1), (2, .int p2), (3, .int p3)] := hl
  unfold f_Bc_differs at hf
  refine lv_aload_n hx hb d_Bc_differs_0 rfl (lv_at hl 0 rfl) ?_
  refine lv_iload_n hx hb d_Bc_differs_1 rfl (lv_at hl 1 rfl) ?_
  obtain ⟨q1, hq1, hf⟩ := op_b hf
  refine ro_go rfl (va_runV (As := [.int p1]) (rest := []) ⟨hx, hb, hml, hown, hts⟩ (m_Bc_lineAt l dC dI tC TL nl hL adL aT nT LS TS FP hF adF FS rf h_bc ad_bc bc ad_sg sg ad_tr tr ad_tu tu ad_ff ff ad_pl pl ad_lw lw p1  q1 _ hFM hP hq1) (cwV 1 hts (gd_V kM_8_102 kI_Bc_lineAt kV_Bc_lineAt kZ_8 kC_Bc_lineAt) rfl rfl rfl (by decide +kernel) ⟨(Nat.le_of_ble_eq_true rfl), (Nat.le_of_ble_eq_true rfl)⟩) ⟨ro_blind, va_recv hK hP (ci := 8) (q0 := 0) rfl rfl, ro_pre hK⟩ rfl rfl hl.1 rfl (lv_room (Nat.le_of_ble_eq_true rfl)) d_Bc_differs_2 ⟨(Nat.le_of_ble_eq_true rfl), (Nat.le_of_ble_eq_true rfl)⟩) ?_
  have hltq1 := lineAt_lt hq1
  rcases q1 with _ | i2
  · have hf := oe_n hf
    refine W.eq (g2 := F0 m 5 ls [.null]) rfl ?_
    refine lv_astoreN (lv' := [(4, .null), (0, .ref h_bc), (1, .int p1), (2, .int p2), (3, .int p3)]) hx hb d_Bc_differs_5 hl (by decide) rfl (fun ls hl => ?_)
    refine lv_aload_n hx hb d_Bc_differs_7 rfl (lv_at hl 1 rfl) ?_
    refine lv_iload_n hx hb d_Bc_differs_8 rfl (lv_at hl 3 rfl) ?_
    obtain ⟨q3, hq3, hf⟩ := op_b hf
    refine ro_go rfl (va_runV (As := [.int p2]) (rest := []) ⟨hx, hb, hml, hown, hts⟩ (m_Bc_lineAt l dC dI tC TL nl hL adL aT nT LS TS FP hF adF FS rf h_bc ad_bc bc ad_sg sg ad_tr tr ad_tu tu ad_ff ff ad_pl pl ad_lw lw p2  q3 _ hFM hP hq3) (cwV 1 hts (gd_V kM_8_102 kI_Bc_lineAt kV_Bc_lineAt kZ_8 kC_Bc_lineAt) rfl rfl rfl (by decide +kernel) ⟨(Nat.le_of_ble_eq_true rfl), (Nat.le_of_ble_eq_true rfl)⟩) ⟨ro_blind, va_recv hK hP (ci := 8) (q0 := 0) rfl rfl, ro_pre hK⟩ rfl rfl hl.1 rfl (lv_room (Nat.le_of_ble_eq_true rfl)) d_Bc_differs_9 ⟨(Nat.le_of_ble_eq_true rfl), (Nat.le_of_ble_eq_true rfl)⟩) ?_
    have hltq3 := lineAt_lt hq3
    rcases q3 with _ | i4
    · have hf := oe_n hf
      refine W.eq (g2 := F0 m 12 ls [.null]) rfl ?_
      refine lv_astoreN (lv' := [(5, .null), (4, .null), (0, .ref h_bc), (1, .int p1), (2, .int p2), (3, .int p3)]) hx hb d_Bc_differs_12 hl (by decide) rfl (fun ls hl => ?_)
      refine lv_aloadN hx hb d_Bc_differs_14 (lv_at hl 1 rfl) ?_
      refine lv_ifnullN (tgt := 28) hx hb d_Bc_differs_16 (by decide) ?_
      refine lv_iconst (v := (-1)) hx hb d_Bc_differs_28 (by decide) ?_
      obtain rfl := Option.some.inj hf
      subst hQ
      exact W.iret (v := (-1)) hx hb hr (fun t ht hW => ⟨rfl, ht⟩) (fun q h => by cases h) d_Bc_differs_29
    · have hf := oe_s hf
      have hi4 := hltq3 i4 rfl
      refine W.eq (g2 := F0 m 12 ls [.ref (hL i4)]) rfl ?_
      refine lv_astore (lv' := [(5, .ref (hL i4)), (4, .null), (0, .ref h_bc), (1, .int p1), (2, .int p2), (3, .int p3)]) hx hb d_Bc_differs_12 hl (by decide) rfl (fun ls hl => ?_)
      refine lv_aloadN hx hb d_Bc_differs_14 (lv_at hl 1 rfl) ?_
      refine lv_ifnullN (tgt := 28) hx hb d_Bc_differs_16 (by decide) ?_
      refine lv_iconst (v := (-1)) hx hb d_Bc_differs_28 (by decide) ?_
      obtain rfl := Option.some.inj hf
      subst hQ
      exact W.iret (v := (-1)) hx hb hr (fun t ht hW => ⟨rfl, ht⟩) (fun q h => by cases h) d_Bc_differs_29
  · have hf := oe_s hf
    have hi2 := hltq1 i2 rfl
    refine W.eq (g2 := F0 m 5 ls [.ref (hL i2)]) rfl ?_
    refine lv_astore (lv' := [(4, .ref (hL i2)), (0, .ref h_bc), (1, .int p1), (2, .int p2), (3, .int p3)]) hx hb d_Bc_differs_5 hl (by decide) rfl (fun ls hl => ?_)
    refine lv_aload_n hx hb d_Bc_differs_7 rfl (lv_at hl 1 rfl) ?_
    refine lv_iload_n hx hb d_Bc_differs_8 rfl (lv_at hl 3 rfl) ?_
    obtain ⟨q5, hq5, hf⟩ := op_b hf
    refine ro_go rfl (va_runV (As := [.int p2]) (rest := []) ⟨hx, hb, hml, hown, hts⟩ (m_Bc_lineAt l dC dI tC TL nl hL adL aT nT LS TS FP hF adF FS rf h_bc ad_bc bc ad_sg sg ad_tr tr ad_tu tu ad_ff ff ad_pl pl ad_lw lw p2  q5 _ hFM hP hq5) (cwV 1 hts (gd_V kM_8_102 kI_Bc_lineAt kV_Bc_lineAt kZ_8 kC_Bc_lineAt) rfl rfl rfl (by decide +kernel) ⟨(Nat.le_of_ble_eq_true rfl), (Nat.le_of_ble_eq_true rfl)⟩) ⟨ro_blind, va_recv hK hP (ci := 8) (q0 := 0) rfl rfl, ro_pre hK⟩ rfl rfl hl.1 rfl (lv_room (Nat.le_of_ble_eq_true rfl)) d_Bc_differs_9 ⟨(Nat.le_of_ble_eq_true rfl), (Nat.le_of_ble_eq_true rfl)⟩) ?_
    have hltq5 := lineAt_lt hq5
    rcases q5 with _ | i6
    · have hf := oe_n hf
      refine W.eq (g2 := F0 m 12 ls [.null]) rfl ?_
      refine lv_astoreN (lv' := [(5, .null), (4, .ref (hL i2)), (0, .ref h_bc), (1, .int p1), (2, .int p2), (3, .int p3)]) hx hb d_Bc_differs_12 hl (by decide) rfl (fun ls hl => ?_)
      refine lv_aload hx hb d_Bc_differs_14 (lv_at hl 1 rfl) ?_
      refine lv_ifnull hx hb d_Bc_differs_16 ?_
      refine lv_aloadN hx hb d_Bc_differs_19 (lv_at hl 0 rfl) ?_
      refine lv_ifnullN (tgt := 28) hx hb d_Bc_differs_21 (by decide) ?_
      refine lv_iconst (v := (-1)) hx hb d_Bc_differs_28 (by decide) ?_
      obtain rfl := Option.some.inj hf
      subst hQ
      exact W.iret (v := (-1)) hx hb hr (fun t ht hW => ⟨rfl, ht⟩) (fun q h => by cases h) d_Bc_differs_29
    · have hf := oe_s hf
      have hi6 := hltq5 i6 rfl
      refine W.eq (g2 := F0 m 12 ls [.ref (hL i6)]) rfl ?_
      refine lv_astore (lv' := [(5, .ref (hL i6)), (4, .ref (hL i2)), (0, .ref h_bc), (1, .int p1), (2, .int p2), (3, .int p3)]) hx hb d_Bc_differs_12 hl (by decide) rfl (fun ls hl => ?_)
      refine lv_aload hx hb d_Bc_differs_14 (lv_at hl 1 rfl) ?_
      refine lv_ifnull hx hb d_Bc_differs_16 ?_
      refine lv_aload hx hb d_Bc_differs_19 (lv_at hl 0 rfl) ?_
      refine lv_ifnull hx hb d_Bc_differs_21 ?_
      refine lv_iload_n hx hb d_Bc_differs_24 rfl (lv_at hl 5 rfl) ?_
      refine lv_if_ge (tgt := 30) hx hb d_Bc_differs_25 (by decide) (fun c7 => ?_) (fun c7 => ?_)
      · have hf := op_t hf c7
        refine lv_iconst (v := 0) hx hb d_Bc_differs_30 (by decide) ?_
        refine lv_istore (lv' := [(6, .int 0), (5, .ref (hL i6)), (4, .ref (hL i2)), (0, .ref h_bc), (1, .int p1), (2, .int p2), (3, .int p3)]) hx hb d_Bc_differs_31 hl (by decide) rfl (fun ls hl => ?_)
        refine lv_iconst (v := 0) hx hb d_Bc_differs_33 (by decide) ?_
        refine lv_istore (lv' := [(7, .int 0), (6, .int 0), (5, .ref (hL i6)), (4, .ref (hL i2)), (0, .ref h_bc), (1, .int p1), (2, .int p2), (3, .int p3)]) hx hb d_Bc_differs_34 hl (by decide) rfl (fun ls hl => ?_)
        have lp_36 : ∀ (n : Nat) (x1 : Int32) (x2 : Int32) (x3 : Int32) (x6 : Int32) (x7 : Int32), l_Bc_differs_36 n x1 x2 x3 x6 x7 nl nT LS TS FP FS i6 i2 bc sg tr tu ff pl lw = some R → ∀ ls : Array Slot, lv_has ls 8 [(7, .int x7), (6, .int x6), (5, .ref (hL i6)), (4, .ref (hL i2)), (0, .ref h_bc), (1, .int x1), (2, .int x2), (3, .int x3)] → W p l e rm_Bc_differs s m args below meth c s.heap [] 0 0 Q (F0 m 36 ls []) := by
          intro n
          induction n with
          | zero => intro x1 x2 x3 x6 x7 hf; cases hf
          | succ n ih_36 =>
            intro x1 x2 x3 x6 x7 hf ls hl
            rw [l_Bc_differs_36] at hf
            refine lv_iload hx hb d_Bc_differs_36 (lv_at hl 0 rfl) ?_
            refine lv_bipush (v := 9) hx hb d_Bc_differs_38 (by decide) ?_
            refine lv_icmp_ge (tgt := 78) hx hb d_Bc_differs_40 (by decide) (fun c8 => ?_) (fun c8 => ?_)
            · have hf := op_t hf c8
              refine lv_iconst (v := (-1)) hx hb d_Bc_differs_78 (by decide) ?_
              obtain rfl := Option.some.inj hf
              subst hQ
              exact W.iret (v := (-1)) hx hb hr (fun t ht hW => ⟨rfl, ht⟩) (fun q h => by cases h) d_Bc_differs_79
            · have hf := op_e hf c8
              refine lv_aload hx hb d_Bc_differs_43 (lv_at hl 3 rfl) ?_
              refine lv_iload hx hb d_Bc_differs_45 (lv_at hl 0 rfl) ?_
              obtain ⟨q9, hq9, hf⟩ := op_b hf
              obtain ⟨k10, hk10⟩ := List.getElem?_of_mem (List.mem_append_right _ (List.mem_append_right _ (List.mem_append_right _ (List.mem_append_right _ (List.mem_append_right _ (List.mem_append_right _ (List.mem_append_right _ ((hFM.1 i2 hi2) _ (List.mem_of_getElem? (i := 0) rfl)))))))))
              refine ro_go rfl (va_runV (As := [.int x7]) (rest := []) ⟨hx, hb, hml, hown, hts⟩ (m_Ln_thing l dC dI tC (hL i2) (adL i2) (LS i2) x7 q9 _ (va_P_in hP (fun q h => (List.mem_append_right _ (List.mem_append_right _ (List.mem_append_right _ (List.mem_append_right _ (List.mem_append_right _ (List.mem_append_right _ (List.mem_append_right _ ((hFM.1 i2 hi2) q h)))))))))) hq9) (cwV 1 hts (gd_V kM_8_229 kI_Ln_thing kV_Ln_thing kZ_2 kC_Ln_thing) rfl rfl rfl (by decide +kernel) ⟨(Nat.le_of_ble_eq_true rfl), (Nat.le_of_ble_eq_true rfl)⟩) ⟨ro_blind, va_recv hK hP (ci := 2) (q0 := k10) rfl hk10, ro_pre hK⟩ rfl rfl hl.1 rfl (lv_room (Nat.le_of_ble_eq_true rfl)) d_Bc_differs_47 ⟨(Nat.le_of_ble_eq_true rfl), (Nat.le_of_ble_eq_true rfl)⟩) ?_
              refine W.eq (g2 := F0 m 50 ls [.int q9]) rfl ?_
              refine lv_aload hx hb d_Bc_differs_50 (lv_at hl 2 rfl) ?_
              refine lv_iload hx hb d_Bc_differs_52 (lv_at hl 0 rfl) ?_
              obtain ⟨q11, hq11, hf⟩ := op_b hf
              obtain ⟨k12, hk12⟩ := List.getElem?_of_mem (List.mem_append_right _ (List.mem_append_right _ (List.mem_append_right _ (List.mem_append_right _ (List.mem_append_right _ (List.mem_append_right _ (List.mem_append_right _ ((hFM.1 i6 hi6) _ (List.mem_of_getElem? (i := 0) rfl)))))))))
              refine ro_go rfl (va_runV (As := [.int x7]) (rest := [.int q9]) ⟨hx, hb, hml, hown, hts⟩ (m_Ln_thing l dC dI tC (hL i6) (adL i6) (LS i6) x7 q11 _ (va_P_in hP (fun q h => (List.mem_append_right _ (List.mem_append_right _ (List.mem_append_right _ (List.mem_append_right _ (List.mem_append_right _ (List.mem_append_right _ (List.mem_append_right _ ((hFM.1 i6 hi6) q h)))))))))) hq11) (cwV 1 hts (gd_V kM_8_229 kI_Ln_thing kV_Ln_thing kZ_2 kC_Ln_thing) rfl rfl rfl (by decide +kernel) ⟨(Nat.le_of_ble_eq_true rfl), (Nat.le_of_ble_eq_true rfl)⟩) ⟨ro_blind, va_recv hK hP (ci := 2) (q0 := k12) rfl hk12, ro_pre hK⟩ rfl rfl hl.1 rfl (lv_room (Nat.le_of_ble_eq_true rfl)) d_Bc_differs_54 ⟨(Nat.le_of_ble_eq_true rfl), (Nat.le_of_ble_eq_true rfl)⟩) ?_
              refine W.eq (g2 := F0 m 57 ls [.int q11, .int q9]) rfl ?_
              refine lv_icmp_eq (tgt := 72) hx hb d_Bc_differs_57 (by decide) (fun c13 => ?_) (fun c13 => ?_)
              · have hf := op_t hf c13
                refine lv_iinc (v := x7 + 1) (lv' := [(7, .int (x7 + 1)), (6, .int x6), (5, .ref (hL i6)), (4, .ref (hL i2)), (0, .ref h_bc), (1, .int x1), (2, .int x2), (3, .int x3)]) hx hb d_Bc_differs_72 hl (k := 0) rfl rfl (by decide) rfl (fun ls hl => ?_)
                refine lv_goto (tgt := 36) hx hb d_Bc_differs_75 (by decide) ?_
                exact ih_36 x1 x2 x3 x6 (x7 + 1) hf _ (lv_sub hl [0, 1, 2, 3, 4, 5, 6, 7] rfl)
              · have hf := op_e hf c13
                refine lv_iload hx hb d_Bc_differs_60 (lv_at hl 1 rfl) ?_
                refine lv_iload_n hx hb d_Bc_differs_62 rfl (lv_at hl 7 rfl) ?_
                refine lv_icmp_ne (tgt := 69) hx hb d_Bc_differs_63 (by decide) (fun c14 => ?_) (fun c14 => ?_)
                · have hf := op_e hf c14
                  refine lv_iinc (v := x6 + 1) (lv' := [(6, .int (x6 + 1)), (7, .int x7), (5, .ref (hL i6)), (4, .ref (hL i2)), (0, .ref h_bc), (1, .int x1), (2, .int x2), (3, .int x3)]) hx hb d_Bc_differs_69 hl (k := 1) rfl rfl (by decide) rfl (fun ls hl => ?_)
                  refine lv_iinc (v := x7 + 1) (lv' := [(7, .int (x7 + 1)), (6, .int (x6 + 1)), (5, .ref (hL i6)), (4, .ref (hL i2)), (0, .ref h_bc), (1, .int x1), (2, .int x2), (3, .int x3)]) hx hb d_Bc_differs_72 hl (k := 1) rfl rfl (by decide) rfl (fun ls hl => ?_)
                  refine lv_goto (tgt := 36) hx hb d_Bc_differs_75 (by decide) ?_
                  exact ih_36 x1 x2 x3 (x6 + 1) (x7 + 1) hf _ (lv_sub hl [0, 1, 2, 3, 4, 5, 6, 7] rfl)
                · have hf := op_t hf c14
                  refine lv_iload hx hb d_Bc_differs_66 (lv_at hl 0 rfl) ?_
                  obtain rfl := Option.some.inj hf
                  subst hQ
                  exact W.iret (v := x7) hx hb hr (fun t ht hW => ⟨rfl, ht⟩) (fun q h => by cases h) d_Bc_differs_68
        exact lp_36 fu p1 p2 p3 0 0 hf _ (lv_sub hl [0, 1, 2, 3, 4, 5, 6, 7] rfl)
      · have hf := op_e hf c7
        refine lv_iconst (v := (-1)) hx hb d_Bc_differs_28 (by decide) ?_
        obtain rfl := Option.some.inj hf
        subst hQ
        exact W.iret (v := (-1)) hx hb hr (fun t ht hW => ⟨rfl, ht⟩) (fun q h => by cases h) d_Bc_differs_29
