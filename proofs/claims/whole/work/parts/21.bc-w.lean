def f_Bc_leg_n (nl : Nat) (nT : Nat → Nat) (LS : Nat → MS) (TS : Nat → MS) (FP : Nat → Bool) (FS : Nat → MS) (bc : MS) (sg : MS) (tr : MS) (tu : MS) (ff : MS) (pl : MS) (lw : MS) (p1 : Int32) (p2 : Int32) (p3 : Int64) : Option (Int32 × MS × MS × MS × MS × MS × MS × MS) := some (0, bc, sg, tr, tu, ff, pl, lw)
def rm_Bc_leg_n : Room := { frames := 1, cells := 0, slots := 0, locals := 21 }
set_option maxHeartbeats 4000000 in
set_option maxRecDepth 100000 in
theorem m_Bc_leg_n (l : Launch) (dC : Nat → ClassId) (dI : Nat → Nat → Nat) (tC : Nat → ClassId) (TL : va_W) (nl : Nat) (hL : Nat → Nat) (adL aT : Nat → Nat → Nat) (nT : Nat → Nat) (LS TS : Nat → MS) (FP : Nat → Bool) (hF : Nat → Nat) (adF : Nat → Nat → Nat) (FS : Nat → MS) (rf : Nat → Nat → Option Nat) (h_bc : Nat) (ad_bc : Nat → Nat) (bc : MS) (ad_sg : Nat → Nat) (sg : MS) (ad_tr : Nat → Nat) (tr : MS) (ad_tu : Nat → Nat) (tu : MS) (ad_ff : Nat → Nat) (ff : MS) (ad_pl : Nat → Nat) (pl : MS) (ad_lw : Nat → Nat) (lw : MS) (p1 : Int32) (p2 : Int32) (p3 : Int64) (R : Int32 × MS × MS × MS × MS × MS × MS × MS) (hFM : FM tC TL nl hL adL aT nT LS TS FP hF adF FS rf) (hq0 : f_Bc_lineAt nl nT LS TS FP FS bc sg tr tu ff pl lw p1 = some none) (hf : f_Bc_leg_n nl nT LS TS FP FS bc sg tr tu ff pl lw p1 p2 p3 = some R) (sz : Nat) : Met l y_Bc_leg w_Bc_leg rm_Bc_leg_n (wrP (dC, dI) tC (w_Bc_ h_bc ad_bc tC rf bc ++ (w_Sg_ (ad_bc 100) ad_sg tC sg ++ (w_Tr_ (ad_bc 104) ad_tr tC tr ++ (w_Tr_ (ad_bc 105) ad_tu tC tu ++ (w_Ff_ (ad_bc 103) ad_ff tC ff ++ (w_Pl_ (ad_bc 101) ad_pl tC pl ++ (w_Lw_ (ad_bc 102) ad_lw tC lw ++ TL))))))) sz [.ref h_bc, .int p1, .int p2, .long p3]) (wrQ (dC, dI) (w_Bc_ h_bc ad_bc tC rf bc ++ (w_Sg_ (ad_bc 100) ad_sg tC sg ++ (w_Tr_ (ad_bc 104) ad_tr tC tr ++ (w_Tr_ (ad_bc 105) ad_tu tC tu ++ (w_Ff_ (ad_bc 103) ad_ff tC ff ++ (w_Pl_ (ad_bc 101) ad_pl tC pl ++ (w_Lw_ (ad_bc 102) ad_lw tC lw ++ TL))))))) sz (fun r w => r = (some (.int R.1)) ∧ w = (w_Bc_ h_bc ad_bc tC rf R.2.1 ++ (w_Sg_ (ad_bc 100) ad_sg tC R.2.2.1 ++ (w_Tr_ (ad_bc 104) ad_tr tC R.2.2.2.1 ++ (w_Tr_ (ad_bc 105) ad_tu tC R.2.2.2.2.1 ++ (w_Ff_ (ad_bc 103) ad_ff tC R.2.2.2.2.2.1 ++ (w_Pl_ (ad_bc 101) ad_pl tC R.2.2.2.2.2.2.1 ++ (w_Lw_ (ad_bc 102) ad_lw tC R.2.2.2.2.2.2.2 ++ TL))))))))) 0 0 (va_A (w_Bc_ h_bc ad_bc tC rf bc ++ (w_Sg_ (ad_bc 100) ad_sg tC sg ++ (w_Tr_ (ad_bc 104) ad_tr tC tr ++ (w_Tr_ (ad_bc 105) ad_tu tC tu ++ (w_Ff_ (ad_bc 103) ad_ff tC ff ++ (w_Pl_ (ad_bc 101) ad_pl tC pl ++ (w_Lw_ (ad_bc 102) ad_lw tC lw ++ TL))))))) sz) := by
  refine Met.ofW (cc := c_Bc_leg) (maxL := 6) (ret := (some (.boolean))) (by decide) rfl ?_
  intro p e s m args below meth c s₁ B hml hv
  obtain ⟨hav, hsz, hP, hK, hD0⟩ := hv
  have hx := B.exec
  have hb := B.bytes
  have hr := B.returns
  have hts : ∀ w ∈ gw, w.before args s = true := fun w h => atoms_spec (ws := w_Bc_leg) B.pre w (List.mem_cons_of_mem _ h)
  have hown : s.vm.findClass RX8 = some m.cls := findClass_of_methodNamed B.named
  have hlocks := B.notSynchronized
  subst hsz
  have hD := hD0.self (sz := s.heap.size)
  obtain ⟨A, hAe⟩ : ∃ z, z = va_A (w_Bc_ h_bc ad_bc tC rf bc ++ (w_Sg_ (ad_bc 100) ad_sg tC sg ++ (w_Tr_ (ad_bc 104) ad_tr tC tr ++ (w_Tr_ (ad_bc 105) ad_tu tC tu ++ (w_Ff_ (ad_bc 103) ad_ff tC ff ++ (w_Pl_ (ad_bc 101) ad_pl tC pl ++ (w_Lw_ (ad_bc 102) ad_lw tC lw ++ TL))))))) s.heap.size := ⟨_, rfl⟩
  rw [← hAe] at hD
  have hA : ∀ q : Nat, s.heap.size ≤ q → A q := fun q h => by rw [hAe]; exact Or.inr h
  have hS : va_S A s.heap s.heap [] := va_S.rf
  refine q_w (R := rm_Bc_leg_n) (fun Q hQ => ?_)
  refine en_w (av := [.ref h_bc, .int p1, .int p2, .long p3]) hav (Nat.le_of_ble_eq_true rfl) (fun ls hl => ?_)
  have hl : lv_has ls 6 [(0, .ref h_bc), (1, .int p1), (2, .int p2), (3, .long p3)] := hl
  unfold f_Bc_leg_n at hf
  refine lv_aload_n hx hb d_Bc_leg_0 rfl (lv_at hl 0 rfl) ?_
  refine lv_iload_n hx hb d_Bc_leg_1 rfl (lv_at hl 1 rfl) ?_
  refine ro_go rfl (va_runV (As := [.int p1]) (rest := []) ⟨hx, hb, hml, hown, hts⟩ (m_Bc_lineAt l dC dI tC TL nl hL adL aT nT LS TS FP hF adF FS rf h_bc ad_bc bc ad_sg sg ad_tr tr ad_tu tu ad_ff ff ad_pl pl ad_lw lw p1 none _ hFM hP hq0) (cwV 1 hts (gd_V kM_8_102 kI_Bc_lineAt kV_Bc_lineAt kZ_8 kC_Bc_lineAt) rfl rfl rfl (by decide +kernel) ⟨(Nat.le_of_ble_eq_true rfl), (Nat.le_of_ble_eq_true rfl)⟩) ⟨ro_blind, va_recv hK hP (ci := 8) (q0 := 0) rfl rfl, ro_pre hK⟩ rfl rfl hl.1 rfl (lv_room (Nat.le_of_ble_eq_true rfl)) d_Bc_leg_2 ⟨(Nat.le_of_ble_eq_true rfl), (Nat.le_of_ble_eq_true rfl)⟩) ?_
  refine W.eq (g2 := F0 m 5 ls [.null]) rfl ?_
  refine lv_astoreN (lv' := [(5, .null), (0, .ref h_bc), (1, .int p1), (2, .int p2), (3, .long p3)]) hx hb d_Bc_leg_5 hl (by decide) rfl (fun ls hl => ?_)
  refine lv_aloadN hx hb d_Bc_leg_7 (lv_at hl 0 rfl) ?_
  refine lv_ifnullN (tgt := 42) hx hb d_Bc_leg_9 (by decide) ?_
  refine lv_iconst (v := 0) hx hb d_Bc_leg_42 (by decide) ?_
  obtain rfl := Option.some.inj hf
  subst hQ
  subst hAe
  exact W.zret (v := 0) (ty := .boolean) hx hb hr (by decide) (fun t ht hW => ⟨⟨_, _, rfl, ⟨rfl, rfl⟩, by rw [ht]; exact hP, hD⟩, hS.F ht⟩) hS.2.2 d_Bc_leg_43
def f_Bc_leg_i (nl : Nat) (nT : Nat → Nat) (LS : Nat → MS) (TS : Nat → MS) (FP : Nat → Bool) (FS : Nat → MS) (bc : MS) (sg : MS) (tr : MS) (tu : MS) (ff : MS) (pl : MS) (lw : MS) (i0 : Nat) (p1 : Int32) (p2 : Int32) (p3 : Int64) : Option (Int32 × MS × MS × MS × MS × MS × MS × MS × MS) := (if p2 < 0 then some (0, bc, sg, tr, tu, ff, pl, lw, LS i0) else (if ((TS i0).1 0) ≤ p2 then some (0, bc, sg, tr, tu, ff, pl, lw, LS i0) else (if p3 < 1 then some (0, bc, sg, tr, tu, ff, pl, lw, LS i0) else (if p3 ≤ 20000 then if ix p2 6 then (some (sA (LS i0) 0 (upd ((LS i0).2.1 0) p2.toNatClampNeg p3.toInt32))).bind fun ln8 => (f_Pl_clear pl).bind fun q9 => some (1, bc, sg, tr, tu, ff, q9.2, lw, ln8) else none else some (0, bc, sg, tr, tu, ff, pl, lw, LS i0)))))
def rm_Bc_leg_i : Room := { frames := 1, cells := 0, slots := 0, locals := 21 }
set_option maxHeartbeats 4000000 in
set_option maxRecDepth 100000 in
theorem m_Bc_leg_i (l : Launch) (dC : Nat → ClassId) (dI : Nat → Nat → Nat) (tC : Nat → ClassId) (TL0 : va_W) (i0 : Nat) (nl : Nat) (hL : Nat → Nat) (adL aT : Nat → Nat → Nat) (nT : Nat → Nat) (LS TS : Nat → MS) (FP : Nat → Bool) (hF : Nat → Nat) (adF : Nat → Nat → Nat) (FS : Nat → MS) (rf : Nat → Nat → Option Nat) (h_bc : Nat) (ad_bc : Nat → Nat) (bc : MS) (ad_sg : Nat → Nat) (sg : MS) (ad_tr : Nat → Nat) (tr : MS) (ad_tu : Nat → Nat) (tu : MS) (ad_ff : Nat → Nat) (ff : MS) (ad_pl : Nat → Nat) (pl : MS) (ad_lw : Nat → Nat) (lw : MS) (p1 : Int32) (p2 : Int32) (p3 : Int64) (R : Int32 × MS × MS × MS × MS × MS × MS × MS × MS) (hFM : FM tC (w_Ln_ (hL i0) (adL i0) tC (LS i0) ++ TL0) nl hL adL aT nT LS TS FP hF adF FS rf) (hT0 : ∀ q ∈ w_Sh_ (adL i0 100) (aT i0) tC (nT i0) (TS i0), q ∈ TL0) (hq0 : f_Bc_lineAt nl nT LS TS FP FS bc sg tr tu ff pl lw p1 = some (some i0)) (hf : f_Bc_leg_i nl nT LS TS FP FS bc sg tr tu ff pl lw i0 p1 p2 p3 = some R) (sz : Nat) : Met l y_Bc_leg w_Bc_leg rm_Bc_leg_i (wrP (dC, dI) tC (w_Bc_ h_bc ad_bc tC rf bc ++ (w_Sg_ (ad_bc 100) ad_sg tC sg ++ (w_Tr_ (ad_bc 104) ad_tr tC tr ++ (w_Tr_ (ad_bc 105) ad_tu tC tu ++ (w_Ff_ (ad_bc 103) ad_ff tC ff ++ (w_Pl_ (ad_bc 101) ad_pl tC pl ++ (w_Lw_ (ad_bc 102) ad_lw tC lw ++ (w_Ln_ (hL i0) (adL i0) tC (LS i0) ++ TL0)))))))) sz [.ref h_bc, .int p1, .int p2, .long p3]) (wrQ (dC, dI) (w_Bc_ h_bc ad_bc tC rf bc ++ (w_Sg_ (ad_bc 100) ad_sg tC sg ++ (w_Tr_ (ad_bc 104) ad_tr tC tr ++ (w_Tr_ (ad_bc 105) ad_tu tC tu ++ (w_Ff_ (ad_bc 103) ad_ff tC ff ++ (w_Pl_ (ad_bc 101) ad_pl tC pl ++ (w_Lw_ (ad_bc 102) ad_lw tC lw ++ (w_Ln_ (hL i0) (adL i0) tC (LS i0) ++ TL0)))))))) sz (fun r w => r = (some (.int R.1)) ∧ w = (w_Bc_ h_bc ad_bc tC rf R.2.1 ++ (w_Sg_ (ad_bc 100) ad_sg tC R.2.2.1 ++ (w_Tr_ (ad_bc 104) ad_tr tC R.2.2.2.1 ++ (w_Tr_ (ad_bc 105) ad_tu tC R.2.2.2.2.1 ++ (w_Ff_ (ad_bc 103) ad_ff tC R.2.2.2.2.2.1 ++ (w_Pl_ (ad_bc 101) ad_pl tC R.2.2.2.2.2.2.1 ++ (w_Lw_ (ad_bc 102) ad_lw tC R.2.2.2.2.2.2.2.1 ++ (w_Ln_ (hL i0) (adL i0) tC R.2.2.2.2.2.2.2.2 ++ TL0)))))))))) 0 0 (va_A (w_Bc_ h_bc ad_bc tC rf bc ++ (w_Sg_ (ad_bc 100) ad_sg tC sg ++ (w_Tr_ (ad_bc 104) ad_tr tC tr ++ (w_Tr_ (ad_bc 105) ad_tu tC tu ++ (w_Ff_ (ad_bc 103) ad_ff tC ff ++ (w_Pl_ (ad_bc 101) ad_pl tC pl ++ (w_Lw_ (ad_bc 102) ad_lw tC lw ++ (w_Ln_ (hL i0) (adL i0) tC (LS i0) ++ TL0)))))))) sz) := by
  refine Met.ofW (cc := c_Bc_leg) (maxL := 6) (ret := (some (.boolean))) (by decide) rfl ?_
  intro p e s m args below meth c s₁ B hml hv
  obtain ⟨hav, hsz, hP, hK, hD0⟩ := hv
  have hx := B.exec
  have hb := B.bytes
  have hr := B.returns
  have hts : ∀ w ∈ gw, w.before args s = true := fun w h => atoms_spec (ws := w_Bc_leg) B.pre w (List.mem_cons_of_mem _ h)
  have hown : s.vm.findClass RX8 = some m.cls := findClass_of_methodNamed B.named
  have hlocks := B.notSynchronized
  subst hsz
  have hD := hD0.self (sz := s.heap.size)
  obtain ⟨A, hAe⟩ : ∃ z, z = va_A (w_Bc_ h_bc ad_bc tC rf bc ++ (w_Sg_ (ad_bc 100) ad_sg tC sg ++ (w_Tr_ (ad_bc 104) ad_tr tC tr ++ (w_Tr_ (ad_bc 105) ad_tu tC tu ++ (w_Ff_ (ad_bc 103) ad_ff tC ff ++ (w_Pl_ (ad_bc 101) ad_pl tC pl ++ (w_Lw_ (ad_bc 102) ad_lw tC lw ++ (w_Ln_ (hL i0) (adL i0) tC (LS i0) ++ TL0)))))))) s.heap.size := ⟨_, rfl⟩
  rw [← hAe] at hD
  have hA : ∀ q : Nat, s.heap.size ≤ q → A q := fun q h => by rw [hAe]; exact Or.inr h
  have hS : va_S A s.heap s.heap [] := va_S.rf
  refine q_w (R := rm_Bc_leg_i) (fun Q hQ => ?_)
  refine en_w (av := [.ref h_bc, .int p1, .int p2, .long p3]) hav (Nat.le_of_ble_eq_true rfl) (fun ls hl => ?_)
  have hl : lv_has ls 6 [(0, .ref h_bc), (1, .int p1), (2, .int p2), (3, .long p3)] := hl
  unfold f_Bc_leg_i at hf
  refine lv_aload_n hx hb d_Bc_leg_0 rfl (lv_at hl 0 rfl) ?_
  refine lv_iload_n hx hb d_Bc_leg_1 rfl (lv_at hl 1 rfl) ?_
  refine ro_go rfl (va_runV (As := [.int p1]) (rest := []) ⟨hx, hb, hml, hown, hts⟩ (m_Bc_lineAt l dC dI tC (w_Ln_ (hL i0) (adL i0) tC (LS i0) ++ TL0) nl hL adL aT nT LS TS FP hF adF FS rf h_bc ad_bc bc ad_sg sg ad_tr tr ad_tu tu ad_ff ff ad_pl pl ad_lw lw p1 (some i0) _ hFM hP hq0) (cwV 1 hts (gd_V kM_8_102 kI_Bc_lineAt kV_Bc_lineAt kZ_8 kC_Bc_lineAt) rfl rfl rfl (by decide +kernel) ⟨(Nat.le_of_ble_eq_true rfl), (Nat.le_of_ble_eq_true rfl)⟩) ⟨ro_blind, va_recv hK hP (ci := 8) (q0 := 0) rfl rfl, ro_pre hK⟩ rfl rfl hl.1 rfl (lv_room (Nat.le_of_ble_eq_true rfl)) d_Bc_leg_2 ⟨(Nat.le_of_ble_eq_true rfl), (Nat.le_of_ble_eq_true rfl)⟩) ?_
  refine W.eq (g2 := F0 m 5 ls [.ref (hL i0)]) rfl ?_
  refine lv_astore (lv' := [(5, .ref (hL i0)), (0, .ref h_bc), (1, .int p1), (2, .int p2), (3, .long p3)]) hx hb d_Bc_leg_5 hl (by decide) rfl (fun ls hl => ?_)
  refine lv_aload hx hb d_Bc_leg_7 (lv_at hl 0 rfl) ?_
  refine lv_ifnull hx hb d_Bc_leg_9 ?_
  refine lv_iload_n hx hb d_Bc_leg_12 rfl (lv_at hl 3 rfl) ?_
  refine lv_if_lt (tgt := 42) hx hb d_Bc_leg_13 (by decide) (fun c2 => ?_) (fun c2 => ?_)
  · have hf := op_t hf c2
    refine lv_iconst (v := 0) hx hb d_Bc_leg_42 (by decide) ?_
    obtain rfl := Option.some.inj hf
    subst hQ
    subst hAe
    exact W.zret (v := 0) (ty := .boolean) hx hb hr (by decide) (fun t ht hW => ⟨⟨_, _, rfl, ⟨rfl, rfl⟩, by rw [ht]; exact hP, hD⟩, hS.F ht⟩) hS.2.2 d_Bc_leg_43
  · have hf := op_e hf c2
    refine lv_iload_n hx hb d_Bc_leg_16 rfl (lv_at hl 3 rfl) ?_
    refine lv_aload hx hb d_Bc_leg_17 (lv_at hl 0 rfl) ?_
    refine va_get (D := (dC, dI)) (ci := 2) (v := .ref (adL i0 100)) (C := RX2) (T := TX2) (N := 9) hx hb hts in_X2 hown hK hP 38 rfl rfl 1 (by decide) (hts _ kF_8_106) (fun _ h9 => h9) rfl d_Bc_leg_19 ?_
    obtain ⟨k3, hk3⟩ := List.getElem?_of_mem (List.mem_append_right _ (List.mem_append_right _ (List.mem_append_right _ (List.mem_append_right _ (List.mem_append_right _ (List.mem_append_right _ (List.mem_append_right _ (List.mem_append_right _ (hT0 _ (List.mem_of_getElem? (i := 0) rfl))))))))))
    refine va_get (D := (dC, dI)) (ci := 4) (v := .int ((TS i0).1 0)) (C := RX4) (T := TX4) (N := 3) hx hb hts in_X4 hown hK hP k3 hk3 rfl 1 (by decide) (hts _ kF_8_110) (fun _ h9 => h9) rfl d_Bc_leg_22 ?_
    refine lv_icmp_ge (tgt := 42) hx hb d_Bc_leg_25 (by decide) (fun c4 => ?_) (fun c4 => ?_)
    · have hf := op_t hf c4
      refine lv_iconst (v := 0) hx hb d_Bc_leg_42 (by decide) ?_
      obtain rfl := Option.some.inj hf
      subst hQ
      subst hAe
      exact W.zret (v := 0) (ty := .boolean) hx hb hr (by decide) (fun t ht hW => ⟨⟨_, _, rfl, ⟨rfl, rfl⟩, by rw [ht]; exact hP, hD⟩, hS.F ht⟩) hS.2.2 d_Bc_leg_43
    · have hf := op_e hf c4
      refine lv_lload_n hx hb d_Bc_leg_28 rfl (lv_at hl 4 rfl) ?_
      refine lv_lconst (v := 1) hx hb d_Bc_leg_29 (by decide) ?_
      refine W.lcmp hx hb d_Bc_leg_30 ?_
      refine lv_if_lt (tgt := 42) hx hb d_Bc_leg_31 (by decide) (fun c5 => ?_) (fun c5 => ?_)
      · have c5 := (lg_cmp_lt _ _).mp c5
        have hf := op_t hf c5
        refine lv_iconst (v := 0) hx hb d_Bc_leg_42 (by decide) ?_
        obtain rfl := Option.some.inj hf
        subst hQ
        subst hAe
        exact W.zret (v := 0) (ty := .boolean) hx hb hr (by decide) (fun t ht hW => ⟨⟨_, _, rfl, ⟨rfl, rfl⟩, by rw [ht]; exact hP, hD⟩, hS.F ht⟩) hS.2.2 d_Bc_leg_43
      · have c5 := fun h9 => c5 ((lg_cmp_lt _ _).mpr h9)
        have hf := op_e hf c5
        refine lv_lload_n hx hb d_Bc_leg_34 rfl (lv_at hl 4 rfl) ?_
        refine lv_ldc2 (v := 20000) hx hb hown (hts _ kK_8_113) d_Bc_leg_35 ?_
        refine W.lcmp hx hb d_Bc_leg_38 ?_
        refine lv_if_le (tgt := 44) hx hb d_Bc_leg_39 (by decide) (fun c6 => ?_) (fun c6 => ?_)
        · have c6 := (lg_cmp_le _ _).mp c6
          have hf := op_t hf c6
          refine lv_aload hx hb d_Bc_leg_44 (lv_at hl 0 rfl) ?_
          refine va_get (D := (dC, dI)) (ci := 2) (v := .ref (adL i0 0)) (C := RX2) (T := TX2) (N := 9) hx hb hts in_X2 hown hK hP 38 rfl rfl 4 (by decide) (hts _ kF_8_115) (fun _ h9 => h9) rfl d_Bc_leg_46 ?_
          refine lv_iload_n hx hb d_Bc_leg_49 rfl (lv_at hl 3 rfl) ?_
          refine lv_lload_n hx hb d_Bc_leg_50 rfl (lv_at hl 4 rfl) ?_
          refine lv_l2i (v := p3.toInt32) hx hb d_Bc_leg_51 rfl ?_
          obtain ⟨hi7, hf⟩ := op_if hf
          refine va_iast (f := (LS i0).2.1 0) hx hb hK hP hD hS 39 0 rfl rfl (ix_in hi7) d_Bc_leg_52 (fun H locs hP hD hS => ?_)
          rw [sr_Bc, sr_Sg, sr_Tr, sr_Tr, sr_Ff, sr_Pl, sr_Lw, sl_Ln_1, wu_Ln_a0] at hP hD
          obtain ⟨ln8, hln8, hf⟩ := op_b hf
          have hP : va_P (dC, dI) vwCl (w_Bc_ h_bc ad_bc tC rf bc ++ (w_Sg_ (ad_bc 100) ad_sg tC sg ++ (w_Tr_ (ad_bc 104) ad_tr tC tr ++ (w_Tr_ (ad_bc 105) ad_tu tC tu ++ (w_Ff_ (ad_bc 103) ad_ff tC ff ++ (w_Pl_ (ad_bc 101) ad_pl tC pl ++ (w_Lw_ (ad_bc 102) ad_lw tC lw ++ (w_Ln_ (hL i0) (adL i0) tC ln8 ++ TL0)))))))) H := by rw [← Option.some.inj hln8]; exact hP
          have hD : va_D A (w_Bc_ h_bc ad_bc tC rf bc ++ (w_Sg_ (ad_bc 100) ad_sg tC sg ++ (w_Tr_ (ad_bc 104) ad_tr tC tr ++ (w_Tr_ (ad_bc 105) ad_tu tC tu ++ (w_Ff_ (ad_bc 103) ad_ff tC ff ++ (w_Pl_ (ad_bc 101) ad_pl tC pl ++ (w_Lw_ (ad_bc 102) ad_lw tC lw ++ (w_Ln_ (hL i0) (adL i0) tC ln8 ++ TL0)))))))) := by rw [← Option.some.inj hln8]; exact hD
          refine lv_aload_n hx hb d_Bc_leg_53 rfl (lv_at hl 1 rfl) ?_
          refine va_get (D := (dC, dI)) (ci := 8) (v := .ref (ad_bc 101)) (C := RX8) (T := TX8) (N := 12) hx hb hts in_X8 hown hK hP 0 rfl rfl 5 (by decide) (hts _ kF_8_41) (fun _ h9 => h9) rfl d_Bc_leg_54 ?_
          obtain ⟨q9, hq9, hf⟩ := op_b hf
          have hPx := cv_P (ws' := (w_Bc_ h_bc ad_bc tC rf bc ++ (w_Sg_ (ad_bc 100) ad_sg tC sg ++ (w_Tr_ (ad_bc 104) ad_tr tC tr ++ (w_Tr_ (ad_bc 105) ad_tu tC tu ++ w_Ff_ (ad_bc 103) ad_ff tC ff)))) ++ ((w_Pl_ (ad_bc 101) ad_pl tC pl) ++ (w_Lw_ (ad_bc 102) ad_lw tC lw ++ (w_Ln_ (hL i0) (adL i0) tC ln8 ++ TL0)))) hP (by simp only [List.append_assoc, List.nil_append])
          have hDx := cv_D (ws' := (w_Bc_ h_bc ad_bc tC rf bc ++ (w_Sg_ (ad_bc 100) ad_sg tC sg ++ (w_Tr_ (ad_bc 104) ad_tr tC tr ++ (w_Tr_ (ad_bc 105) ad_tu tC tu ++ w_Ff_ (ad_bc 103) ad_ff tC ff)))) ++ ((w_Pl_ (ad_bc 101) ad_pl tC pl) ++ (w_Lw_ (ad_bc 102) ad_lw tC lw ++ (w_Ln_ (hL i0) (adL i0) tC ln8 ++ TL0)))) hD (by simp only [List.append_assoc, List.nil_append])
          obtain ⟨hPc, hDc, hFc⟩ := bk_cut0 hPx hDx hS hA
          refine wr_go (va_runV (As := []) (rest := []) ⟨hx, hb, hml, hown, hts⟩ (m_Pl_clear l dC dI tC (ad_bc 101) ad_pl pl q9 hq9 _) (cwV 0 hts (gd_V kM_8_96 kI_Pl_clear kV_Pl_clear kZ_3 kC_Pl_clear) rfl rfl rfl (by decide +kernel) ⟨(Nat.le_of_ble_eq_true rfl), (Nat.le_of_ble_eq_true rfl)⟩) ⟨wr_blind, va_recv hK hP (ci := 3) (q0 := 21) rfl rfl, wr_pre hK hPc hDc⟩ rfl rfl hl.1 rfl (lv_room (Nat.le_of_ble_eq_true rfl)) d_Bc_leg_57 ⟨(Nat.le_of_ble_eq_true rfl), (Nat.le_of_ble_eq_true rfl)⟩) hS hFc (fun r w1 H1 locs hw hP1 hD1 hk1 hS => ?_)
          obtain ⟨rfl, rfl⟩ := hw
          obtain ⟨hP, hD⟩ := bk_join0 (B1 := (w_Pl_ (ad_bc 101) ad_pl tC q9.2)) hPx hDx hk1 hP1 rfl
          clear hP1 hD1 hk1 hPc hDc hFc hPx hDx
          have hP := cv_P (ws' := (w_Bc_ h_bc ad_bc tC rf bc ++ (w_Sg_ (ad_bc 100) ad_sg tC sg ++ (w_Tr_ (ad_bc 104) ad_tr tC tr ++ (w_Tr_ (ad_bc 105) ad_tu tC tu ++ (w_Ff_ (ad_bc 103) ad_ff tC ff ++ (w_Pl_ (ad_bc 101) ad_pl tC q9.2 ++ (w_Lw_ (ad_bc 102) ad_lw tC lw ++ (w_Ln_ (hL i0) (adL i0) tC ln8 ++ TL0))))))))) hP (by simp only [List.append_assoc, List.nil_append])
          have hD := cv_D (ws' := (w_Bc_ h_bc ad_bc tC rf bc ++ (w_Sg_ (ad_bc 100) ad_sg tC sg ++ (w_Tr_ (ad_bc 104) ad_tr tC tr ++ (w_Tr_ (ad_bc 105) ad_tu tC tu ++ (w_Ff_ (ad_bc 103) ad_ff tC ff ++ (w_Pl_ (ad_bc 101) ad_pl tC q9.2 ++ (w_Lw_ (ad_bc 102) ad_lw tC lw ++ (w_Ln_ (hL i0) (adL i0) tC ln8 ++ TL0))))))))) hD (by simp only [List.append_assoc, List.nil_append])
          refine W.eq (g2 := F0 m 60 ls []) rfl ?_
          refine lv_iconst (v := 1) hx hb d_Bc_leg_60 (by decide) ?_
          obtain rfl := Option.some.inj hf
          subst hQ
          subst hAe
          exact W.zret (v := 1) (ty := .boolean) hx hb hr (by decide) (fun t ht hW => ⟨⟨_, _, rfl, ⟨rfl, rfl⟩, by rw [ht]; exact hP, hD⟩, hS.F ht⟩) hS.2.2 d_Bc_leg_61
        · have c6 := fun h9 => c6 ((lg_cmp_le _ _).mpr h9)
          have hf := op_e hf c6
          refine lv_iconst (v := 0) hx hb d_Bc_leg_42 (by decide) ?_
          obtain rfl := Option.some.inj hf
          subst hQ
          subst hAe
          exact W.zret (v := 0) (ty := .boolean) hx hb hr (by decide) (fun t ht hW => ⟨⟨_, _, rfl, ⟨rfl, rfl⟩, by rw [ht]; exact hP, hD⟩, hS.F ht⟩) hS.2.2 d_Bc_leg_43
def f_Bc_place_n (nl : Nat) (nT : Nat → Nat) (LS : Nat → MS) (TS : Nat → MS) (FP : Nat → Bool) (FS : Nat → MS) (bc : MS) (sg : MS) (tr : MS) (tu : MS) (ff : MS) (pl : MS) (lw : MS) (p1 : Int32) (p2 : Int64) (p3 : Int64) (p4 : Int64) : Option (Int32 × MS × MS × MS × MS × MS × MS × MS) := some (0, bc, sg, tr, tu, ff, pl, lw)
def rm_Bc_place_n : Room := { frames := 1, cells := 0, slots := 0, locals := 21 }
set_option maxHeartbeats 4000000 in
set_option maxRecDepth 100000 in
theorem m_Bc_place_n (l : Launch) (dC : Nat → ClassId) (dI : Nat → Nat → Nat) (tC : Nat → ClassId) (TL : va_W) (nl : Nat) (hL : Nat → Nat) (adL aT : Nat → Nat → Nat) (nT : Nat → Nat) (LS TS : Nat → MS) (FP : Nat → Bool) (hF : Nat → Nat) (adF : Nat → Nat → Nat) (FS : Nat → MS) (rf : Nat → Nat → Option Nat) (h_bc : Nat) (ad_bc : Nat → Nat) (bc : MS) (ad_sg : Nat → Nat) (sg : MS) (ad_tr : Nat → Nat) (tr : MS) (ad_tu : Nat → Nat) (tu : MS) (ad_ff : Nat → Nat) (ff : MS) (ad_pl : Nat → Nat) (pl : MS) (ad_lw : Nat → Nat) (lw : MS) (p1 : Int32) (p2 : Int64) (p3 : Int64) (p4 : Int64) (R : Int32 × MS × MS × MS × MS × MS × MS × MS) (hFM : FM tC TL nl hL adL aT nT LS TS FP hF adF FS rf) (hq0 : f_Bc_lineAt nl nT LS TS FP FS bc sg tr tu ff pl lw p1 = some none) (hf : f_Bc_place_n nl nT LS TS FP FS bc sg tr tu ff pl lw p1 p2 p3 p4 = some R) (sz : Nat) : Met l y_Bc_place w_Bc_place rm_Bc_place_n (wrP (dC, dI) tC (w_Bc_ h_bc ad_bc tC rf bc ++ (w_Sg_ (ad_bc 100) ad_sg tC sg ++ (w_Tr_ (ad_bc 104) ad_tr tC tr ++ (w_Tr_ (ad_bc 105) ad_tu tC tu ++ (w_Ff_ (ad_bc 103) ad_ff tC ff ++ (w_Pl_ (ad_bc 101) ad_pl tC pl ++ (w_Lw_ (ad_bc 102) ad_lw tC lw ++ TL))))))) sz [.ref h_bc, .int p1, .long p2, .long p3, .long p4]) (wrQ (dC, dI) (w_Bc_ h_bc ad_bc tC rf bc ++ (w_Sg_ (ad_bc 100) ad_sg tC sg ++ (w_Tr_ (ad_bc 104) ad_tr tC tr ++ (w_Tr_ (ad_bc 105) ad_tu tC tu ++ (w_Ff_ (ad_bc 103) ad_ff tC ff ++ (w_Pl_ (ad_bc 101) ad_pl tC pl ++ (w_Lw_ (ad_bc 102) ad_lw tC lw ++ TL))))))) sz (fun r w => r = (some (.int R.1)) ∧ w = (w_Bc_ h_bc ad_bc tC rf R.2.1 ++ (w_Sg_ (ad_bc 100) ad_sg tC R.2.2.1 ++ (w_Tr_ (ad_bc 104) ad_tr tC R.2.2.2.1 ++ (w_Tr_ (ad_bc 105) ad_tu tC R.2.2.2.2.1 ++ (w_Ff_ (ad_bc 103) ad_ff tC R.2.2.2.2.2.1 ++ (w_Pl_ (ad_bc 101) ad_pl tC R.2.2.2.2.2.2.1 ++ (w_Lw_ (ad_bc 102) ad_lw tC R.2.2.2.2.2.2.2 ++ TL))))))))) 0 0 (va_A (w_Bc_ h_bc ad_bc tC rf bc ++ (w_Sg_ (ad_bc 100) ad_sg tC sg ++ (w_Tr_ (ad_bc 104) ad_tr tC tr ++ (w_Tr_ (ad_bc 105) ad_tu tC tu ++ (w_Ff_ (ad_bc 103) ad_ff tC ff ++ (w_Pl_ (ad_bc 101) ad_pl tC pl ++ (w_Lw_ (ad_bc 102) ad_lw tC lw ++ TL))))))) sz) := by
  refine Met.ofW (cc := c_Bc_place) (maxL := 9) (ret := (some (.boolean))) (by decide) rfl ?_
  intro p e s m args below meth c s₁ B hml hv
  obtain ⟨hav, hsz, hP, hK, hD0⟩ := hv
  have hx := B.exec
  have hb := B.bytes
  have hr := B.returns
  have hts : ∀ w ∈ gw, w.before args s = true := fun w h => atoms_spec (ws := w_Bc_place) B.pre w (List.mem_cons_of_mem _ h)
  have hown : s.vm.findClass RX8 = some m.cls := findClass_of_methodNamed B.named
  have hlocks := B.notSynchronized
  subst hsz
  have hD := hD0.self (sz := s.heap.size)
  obtain ⟨A, hAe⟩ : ∃ z, z = va_A (w_Bc_ h_bc ad_bc tC rf bc ++ (w_Sg_ (ad_bc 100) ad_sg tC sg ++ (w_Tr_ (ad_bc 104) ad_tr tC tr ++ (w_Tr_ (ad_bc 105) ad_tu tC tu ++ (w_Ff_ (ad_bc 103) ad_ff tC ff ++ (w_Pl_ (ad_bc 101) ad_pl tC pl ++ (w_Lw_ (ad_bc 102) ad_lw tC lw ++ TL))))))) s.heap.size := ⟨_, rfl⟩
  rw [← hAe] at hD
  have hA : ∀ q : Nat, s.heap.size ≤ q → A q := fun q h => by rw [hAe]; exact Or.inr h
  have hS : va_S A s.heap s.heap [] := va_S.rf
  refine q_w (R := rm_Bc_place_n) (fun Q hQ => ?_)
  refine en_w (av := [.ref h_bc, .int p1, .long p2, .long p3, .long p4]) hav (Nat.le_of_ble_eq_true rfl) (fun ls hl => ?_)
  have hl : lv_has ls 9 [(0, .ref h_bc), (1, .int p1), (2, .long p2), (4, .long p3), (6, .long p4)] := hl
  unfold f_Bc_place_n at hf
  refine lv_aload_n hx hb d_Bc_place_0 rfl (lv_at hl 0 rfl) ?_
  refine lv_iload_n hx hb d_Bc_place_1 rfl (lv_at hl 1 rfl) ?_
  refine ro_go rfl (va_runV (As := [.int p1]) (rest := []) ⟨hx, hb, hml, hown, hts⟩ (m_Bc_lineAt l dC dI tC TL nl hL adL aT nT LS TS FP hF adF FS rf h_bc ad_bc bc ad_sg sg ad_tr tr ad_tu tu ad_ff ff ad_pl pl ad_lw lw p1 none _ hFM hP hq0) (cwV 1 hts (gd_V kM_8_102 kI_Bc_lineAt kV_Bc_lineAt kZ_8 kC_Bc_lineAt) rfl rfl rfl (by decide +kernel) ⟨(Nat.le_of_ble_eq_true rfl), (Nat.le_of_ble_eq_true rfl)⟩) ⟨ro_blind, va_recv hK hP (ci := 8) (q0 := 0) rfl rfl, ro_pre hK⟩ rfl rfl hl.1 rfl (lv_room (Nat.le_of_ble_eq_true rfl)) d_Bc_place_2 ⟨(Nat.le_of_ble_eq_true rfl), (Nat.le_of_ble_eq_true rfl)⟩) ?_
  refine W.eq (g2 := F0 m 5 ls [.null]) rfl ?_
  refine lv_astoreN (lv' := [(8, .null), (0, .ref h_bc), (1, .int p1), (2, .long p2), (4, .long p3), (6, .long p4)]) hx hb d_Bc_place_5 hl (by decide) rfl (fun ls hl => ?_)
  refine lv_aloadN hx hb d_Bc_place_7 (lv_at hl 0 rfl) ?_
  refine lv_ifnullN (tgt := 35) hx hb d_Bc_place_9 (by decide) ?_
  refine lv_iconst (v := 0) hx hb d_Bc_place_35 (by decide) ?_
  obtain rfl := Option.some.inj hf
  subst hQ
  subst hAe
  exact W.zret (v := 0) (ty := .boolean) hx hb hr (by decide) (fun t ht hW => ⟨⟨_, _, rfl, ⟨rfl, rfl⟩, by rw [ht]; exact hP, hD⟩, hS.F ht⟩) hS.2.2 d_Bc_place_36
def f_Bc_place_i (nl : Nat) (nT : Nat → Nat) (LS : Nat → MS) (TS : Nat → MS) (FP : Nat → Bool) (FS : Nat → MS) (bc : MS) (sg : MS) (tr : MS) (tu : MS) (ff : MS) (pl : MS) (lw : MS) (i0 : Nat) (p1 : Int32) (p2 : Int64) (p3 : Int64) (p4 : Int64) : Option (Int32 × MS × MS × MS × MS × MS × MS × MS × MS) := (f_Bc_isPlace p2).bind fun q2 => (if q2 = 0 then some (0, bc, sg, tr, tu, ff, pl, lw, LS i0) else (f_Bc_isPlace p3).bind fun q4 => (if q4 = 0 then some (0, bc, sg, tr, tu, ff, pl, lw, LS i0) else (f_Bc_isPlace p4).bind fun q6 => (if q6 = 0 then some (0, bc, sg, tr, tu, ff, pl, lw, LS i0) else (some (sI (LS i0) 4 p2.toInt32)).bind fun ln8 => (some (sI ln8 5 p3.toInt32)).bind fun ln9 => (some (sI ln9 6 p4.toInt32)).bind fun ln10 => (some (sI ln10 3 1)).bind fun ln11 => some (1, bc, sg, tr, tu, ff, pl, lw, ln11))))
def rm_Bc_place_i : Room := { frames := 1, cells := 0, slots := 0, locals := 21 }
set_option maxHeartbeats 4000000 in
set_option maxRecDepth 100000 in
theorem m_Bc_place_i (l : Launch) (dC : Nat → ClassId) (dI : Nat → Nat → Nat) (tC : Nat → ClassId) (TL0 : va_W) (i0 : Nat) (nl : Nat) (hL : Nat → Nat) (adL aT : Nat → Nat → Nat) (nT : Nat → Nat) (LS TS : Nat → MS) (FP : Nat → Bool) (hF : Nat → Nat) (adF : Nat → Nat → Nat) (FS : Nat → MS) (rf : Nat → Nat → Option Nat) (h_bc : Nat) (ad_bc : Nat → Nat) (bc : MS) (ad_sg : Nat → Nat) (sg : MS) (ad_tr : Nat → Nat) (tr : MS) (ad_tu : Nat → Nat) (tu : MS) (ad_ff : Nat → Nat) (ff : MS) (ad_pl : Nat → Nat) (pl : MS) (ad_lw : Nat → Nat) (lw : MS) (p1 : Int32) (p2 : Int64) (p3 : Int64) (p4 : Int64) (R : Int32 × MS × MS × MS × MS × MS × MS × MS × MS) (hFM : FM tC (w_Ln_ (hL i0) (adL i0) tC (LS i0) ++ TL0) nl hL adL aT nT LS TS FP hF adF FS rf) (hT0 : ∀ q ∈ w_Sh_ (adL i0 100) (aT i0) tC (nT i0) (TS i0), q ∈ TL0) (hq0 : f_Bc_lineAt nl nT LS TS FP FS bc sg tr tu ff pl lw p1 = some (some i0)) (hf : f_Bc_place_i nl nT LS TS FP FS bc sg tr tu ff pl lw i0 p1 p2 p3 p4 = some R) (sz : Nat) : Met l y_Bc_place w_Bc_place rm_Bc_place_i (wrP (dC, dI) tC (w_Bc_ h_bc ad_bc tC rf bc ++ (w_Sg_ (ad_bc 100) ad_sg tC sg ++ (w_Tr_ (ad_bc 104) ad_tr tC tr ++ (w_Tr_ (ad_bc 105) ad_tu tC tu ++ (w_Ff_ (ad_bc 103) ad_ff tC ff ++ (w_Pl_ (ad_bc 101) ad_pl tC pl ++ (w_Lw_ (ad_bc 102) ad_lw tC lw ++ (w_Ln_ (hL i0) (adL i0) tC (LS i0) ++ TL0)))))))) sz [.ref h_bc, .int p1, .long p2, .long p3, .long p4]) (wrQ (dC, dI) (w_Bc_ h_bc ad_bc tC rf bc ++ (w_Sg_ (ad_bc 100) ad_sg tC sg ++ (w_Tr_ (ad_bc 104) ad_tr tC tr ++ (w_Tr_ (ad_bc 105) ad_tu tC tu ++ (w_Ff_ (ad_bc 103) ad_ff tC ff ++ (w_Pl_ (ad_bc 101) ad_pl tC pl ++ (w_Lw_ (ad_bc 102) ad_lw tC lw ++ (w_Ln_ (hL i0) (adL i0) tC (LS i0) ++ TL0)))))))) sz (fun r w => r = (some (.int R.1)) ∧ w = (w_Bc_ h_bc ad_bc tC rf R.2.1 ++ (w_Sg_ (ad_bc 100) ad_sg tC R.2.2.1 ++ (w_Tr_ (ad_bc 104) ad_tr tC R.2.2.2.1 ++ (w_Tr_ (ad_bc 105) ad_tu tC R.2.2.2.2.1 ++ (w_Ff_ (ad_bc 103) ad_ff tC R.2.2.2.2.2.1 ++ (w_Pl_ (ad_bc 101) ad_pl tC R.2.2.2.2.2.2.1 ++ (w_Lw_ (ad_bc 102) ad_lw tC R.2.2.2.2.2.2.2.1 ++ (w_Ln_ (hL i0) (adL i0) tC R.2.2.2.2.2.2.2.2 ++ TL0)))))))))) 0 0 (va_A (w_Bc_ h_bc ad_bc tC rf bc ++ (w_Sg_ (ad_bc 100) ad_sg tC sg ++ (w_Tr_ (ad_bc 104) ad_tr tC tr ++ (w_Tr_ (ad_bc 105) ad_tu tC tu ++ (w_Ff_ (ad_bc 103) ad_ff tC ff ++ (w_Pl_ (ad_bc 101) ad_pl tC pl ++ (w_Lw_ (ad_bc 102) ad_lw tC lw ++ (w_Ln_ (hL i0) (adL i0) tC (LS i0) ++ TL0)))))))) sz) := by
  refine Met.ofW (cc := c_Bc_place) (maxL := 9) (ret := (some (.boolean))) (by decide) rfl ?_
  intro p e s m args below meth c s₁ B hml hv
  obtain ⟨hav, hsz, hP, hK, hD0⟩ := hv
  have hx := B.exec
  have hb := B.bytes
  have hr := B.returns
  have hts : ∀ w ∈ gw, w.before args s = true := fun w h => atoms_spec (ws := w_Bc_place) B.pre w (List.mem_cons_of_mem _ h)
  have hown : s.vm.findClass RX8 = some m.cls := findClass_of_methodNamed B.named
  have hlocks := B.notSynchronized
  subst hsz
  have hD := hD0.self (sz := s.heap.size)
  obtain ⟨A, hAe⟩ : ∃ z, z = va_A (w_Bc_ h_bc ad_bc tC rf bc ++ (w_Sg_ (ad_bc 100) ad_sg tC sg ++ (w_Tr_ (ad_bc 104) ad_tr tC tr ++ (w_Tr_ (ad_bc 105) ad_tu tC tu ++ (w_Ff_ (ad_bc 103) ad_ff tC ff ++ (w_Pl_ (ad_bc 101) ad_pl tC pl ++ (w_Lw_ (ad_bc 102) ad_lw tC lw ++ (w_Ln_ (hL i0) (adL i0) tC (LS i0) ++ TL0)))))))) s.heap.size := ⟨_, rfl⟩
  rw [← hAe] at hD
  have hA : ∀ q : Nat, s.heap.size ≤ q → A q := fun q h => by rw [hAe]; exact Or.inr h
  have hS : va_S A s.heap s.heap [] := va_S.rf
  refine q_w (R := rm_Bc_place_i) (fun Q hQ => ?_)
  refine en_w (av := [.ref h_bc, .int p1, .long p2, .long p3, .long p4]) hav (Nat.le_of_ble_eq_true rfl) (fun ls hl => ?_)
  have hl : lv_has ls 9 [(0, .ref h_bc), (1, .int p1), (2, .long p2), (4, .long p3), (6, .long p4)] := hl
  unfold f_Bc_place_i at hf
  refine lv_aload_n hx hb d_Bc_place_0 rfl (lv_at hl 0 rfl) ?_
  refine lv_iload_n hx hb d_Bc_place_1 rfl (lv_at hl 1 rfl) ?_
  refine ro_go rfl (va_runV (As := [.int p1]) (rest := []) ⟨hx, hb, hml, hown, hts⟩ (m_Bc_lineAt l dC dI tC (w_Ln_ (hL i0) (adL i0) tC (LS i0) ++ TL0) nl hL adL aT nT LS TS FP hF adF FS rf h_bc ad_bc bc ad_sg sg ad_tr tr ad_tu tu ad_ff ff ad_pl pl ad_lw lw p1 (some i0) _ hFM hP hq0) (cwV 1 hts (gd_V kM_8_102 kI_Bc_lineAt kV_Bc_lineAt kZ_8 kC_Bc_lineAt) rfl rfl rfl (by decide +kernel) ⟨(Nat.le_of_ble_eq_true rfl), (Nat.le_of_ble_eq_true rfl)⟩) ⟨ro_blind, va_recv hK hP (ci := 8) (q0 := 0) rfl rfl, ro_pre hK⟩ rfl rfl hl.1 rfl (lv_room (Nat.le_of_ble_eq_true rfl)) d_Bc_place_2 ⟨(Nat.le_of_ble_eq_true rfl), (Nat.le_of_ble_eq_true rfl)⟩) ?_
  refine W.eq (g2 := F0 m 5 ls [.ref (hL i0)]) rfl ?_
  refine lv_astore (lv' := [(8, .ref (hL i0)), (0, .ref h_bc), (1, .int p1), (2, .long p2), (4, .long p3), (6, .long p4)]) hx hb d_Bc_place_5 hl (by decide) rfl (fun ls hl => ?_)
  refine lv_aload hx hb d_Bc_place_7 (lv_at hl 0 rfl) ?_
  refine lv_ifnull hx hb d_Bc_place_9 ?_
  refine lv_lload_n hx hb d_Bc_place_12 rfl (lv_at hl 3 rfl) ?_
  obtain ⟨q2, hq2, hf⟩ := op_b hf
  refine ro_go rfl (va_runS (As := [.long p2]) (rest := []) ⟨hx, hb, hml, hown, hts⟩ (m_Bc_isPlace l dC dI tC p2 q2 _  hq2) (cwS 1 hts (gd_S kM_8_177 kS_Bc_isPlace kZ_8 kC_Bc_isPlace) rfl rfl rfl (by decide +kernel) ⟨(Nat.le_of_ble_eq_true rfl), (Nat.le_of_ble_eq_true rfl)⟩) ⟨ro_blind, ro_pre hK⟩ rfl rfl hl.1 rfl (lv_room (Nat.le_of_ble_eq_true rfl)) d_Bc_place_13 ⟨(Nat.le_of_ble_eq_true rfl), (Nat.le_of_ble_eq_true rfl)⟩) ?_
  refine W.eq (g2 := F0 m 16 ls [.int q2]) rfl ?_
  refine lv_if_eq (tgt := 35) hx hb d_Bc_place_16 (by decide) (fun c3 => ?_) (fun c3 => ?_)
  · have hf := op_t hf c3
    refine lv_iconst (v := 0) hx hb d_Bc_place_35 (by decide) ?_
    obtain rfl := Option.some.inj hf
    subst hQ
    subst hAe
    exact W.zret (v := 0) (ty := .boolean) hx hb hr (by decide) (fun t ht hW => ⟨⟨_, _, rfl, ⟨rfl, rfl⟩, by rw [ht]; exact hP, hD⟩, hS.F ht⟩) hS.2.2 d_Bc_place_36
  · have hf := op_e hf c3
    refine lv_lload hx hb d_Bc_place_19 (lv_at hl 4 rfl) ?_
    obtain ⟨q4, hq4, hf⟩ := op_b hf
    refine ro_go rfl (va_runS (As := [.long p3]) (rest := []) ⟨hx, hb, hml, hown, hts⟩ (m_Bc_isPlace l dC dI tC p3 q4 _  hq4) (cwS 1 hts (gd_S kM_8_177 kS_Bc_isPlace kZ_8 kC_Bc_isPlace) rfl rfl rfl (by decide +kernel) ⟨(Nat.le_of_ble_eq_true rfl), (Nat.le_of_ble_eq_true rfl)⟩) ⟨ro_blind, ro_pre hK⟩ rfl rfl hl.1 rfl (lv_room (Nat.le_of_ble_eq_true rfl)) d_Bc_place_21 ⟨(Nat.le_of_ble_eq_true rfl), (Nat.le_of_ble_eq_true rfl)⟩) ?_
    refine W.eq (g2 := F0 m 24 ls [.int q4]) rfl ?_
    refine lv_if_eq (tgt := 35) hx hb d_Bc_place_24 (by decide) (fun c5 => ?_) (fun c5 => ?_)
    · have hf := op_t hf c5
      refine lv_iconst (v := 0) hx hb d_Bc_place_35 (by decide) ?_
      obtain rfl := Option.some.inj hf
      subst hQ
      subst hAe
      exact W.zret (v := 0) (ty := .boolean) hx hb hr (by decide) (fun t ht hW => ⟨⟨_, _, rfl, ⟨rfl, rfl⟩, by rw [ht]; exact hP, hD⟩, hS.F ht⟩) hS.2.2 d_Bc_place_36
    · have hf := op_e hf c5
      refine lv_lload hx hb d_Bc_place_27 (lv_at hl 5 rfl) ?_
      obtain ⟨q6, hq6, hf⟩ := op_b hf
      refine ro_go rfl (va_runS (As := [.long p4]) (rest := []) ⟨hx, hb, hml, hown, hts⟩ (m_Bc_isPlace l dC dI tC p4 q6 _  hq6) (cwS 1 hts (gd_S kM_8_177 kS_Bc_isPlace kZ_8 kC_Bc_isPlace) rfl rfl rfl (by decide +kernel) ⟨(Nat.le_of_ble_eq_true rfl), (Nat.le_of_ble_eq_true rfl)⟩) ⟨ro_blind, ro_pre hK⟩ rfl rfl hl.1 rfl (lv_room (Nat.le_of_ble_eq_true rfl)) d_Bc_place_29 ⟨(Nat.le_of_ble_eq_true rfl), (Nat.le_of_ble_eq_true rfl)⟩) ?_
      refine W.eq (g2 := F0 m 32 ls [.int q6]) rfl ?_
      refine lv_if_ne (tgt := 37) hx hb d_Bc_place_32 (by decide) (fun c7 => ?_) (fun c7 => ?_)
      · have hf := op_e hf c7
        refine lv_aload hx hb d_Bc_place_37 (lv_at hl 0 rfl) ?_
        refine lv_lload_n hx hb d_Bc_place_39 rfl (lv_at hl 3 rfl) ?_
        refine lv_l2i (v := p2.toInt32) hx hb d_Bc_place_40 rfl ?_
        refine va_put (D := (dC, dI)) (ci := 2) (v := .int p2.toInt32) (ty := .int) (C := RX2) (T := TX2) (N := 9) hx hb hts in_X2 tyX2 tyX2_ok nmX2 hown hK hP hD hS 38 (fs := [.int ((LS i0).1 0), .ref (adL i0 100), .int ((LS i0).1 1), .int ((LS i0).1 2), .ref (adL i0 0), .int ((LS i0).1 3), .int ((LS i0).1 4), .int ((LS i0).1 5), .int ((LS i0).1 6)]) rfl rfl 6 (by decide) (hts _ kF_8_181) (fun _ h9 => h9) rfl (by decide +kernel) (rfl) (rfl) (Nat.le_of_ble_eq_true rfl) d_Bc_place_41 (fun H locs hP hD hS => ?_)
        rw [sr_Bc, sr_Sg, sr_Tr, sr_Tr, sr_Ff, sr_Pl, sr_Lw, sl_Ln_0, wu_Ln_s4] at hP hD
        obtain ⟨ln8, hln8, hf⟩ := op_b hf
        have hP : va_P (dC, dI) vwCl (w_Bc_ h_bc ad_bc tC rf bc ++ (w_Sg_ (ad_bc 100) ad_sg tC sg ++ (w_Tr_ (ad_bc 104) ad_tr tC tr ++ (w_Tr_ (ad_bc 105) ad_tu tC tu ++ (w_Ff_ (ad_bc 103) ad_ff tC ff ++ (w_Pl_ (ad_bc 101) ad_pl tC pl ++ (w_Lw_ (ad_bc 102) ad_lw tC lw ++ (w_Ln_ (hL i0) (adL i0) tC ln8 ++ TL0)))))))) H := by rw [← Option.some.inj hln8]; exact hP
        have hD : va_D A (w_Bc_ h_bc ad_bc tC rf bc ++ (w_Sg_ (ad_bc 100) ad_sg tC sg ++ (w_Tr_ (ad_bc 104) ad_tr tC tr ++ (w_Tr_ (ad_bc 105) ad_tu tC tu ++ (w_Ff_ (ad_bc 103) ad_ff tC ff ++ (w_Pl_ (ad_bc 101) ad_pl tC pl ++ (w_Lw_ (ad_bc 102) ad_lw tC lw ++ (w_Ln_ (hL i0) (adL i0) tC ln8 ++ TL0)))))))) := by rw [← Option.some.inj hln8]; exact hD
        refine lv_aload hx hb d_Bc_place_44 (lv_at hl 0 rfl) ?_
        refine lv_lload hx hb d_Bc_place_46 (lv_at hl 4 rfl) ?_
        refine lv_l2i (v := p3.toInt32) hx hb d_Bc_place_48 rfl ?_
        refine va_put (D := (dC, dI)) (ci := 2) (v := .int p3.toInt32) (ty := .int) (C := RX2) (T := TX2) (N := 9) hx hb hts in_X2 tyX2 tyX2_ok nmX2 hown hK hP hD hS 38 (fs := [.int (ln8.1 0), .ref (adL i0 100), .int (ln8.1 1), .int (ln8.1 2), .ref (adL i0 0), .int (ln8.1 3), .int (ln8.1 4), .int (ln8.1 5), .int (ln8.1 6)]) rfl rfl 7 (by decide) (hts _ kF_8_184) (fun _ h9 => h9) rfl (by decide +kernel) (rfl) (rfl) (Nat.le_of_ble_eq_true rfl) d_Bc_place_49 (fun H locs hP hD hS => ?_)
        rw [sr_Bc, sr_Sg, sr_Tr, sr_Tr, sr_Ff, sr_Pl, sr_Lw, sl_Ln_0, wu_Ln_s5] at hP hD
        obtain ⟨ln9, hln9, hf⟩ := op_b hf
        have hP : va_P (dC, dI) vwCl (w_Bc_ h_bc ad_bc tC rf bc ++ (w_Sg_ (ad_bc 100) ad_sg tC sg ++ (w_Tr_ (ad_bc 104) ad_tr tC tr ++ (w_Tr_ (ad_bc 105) ad_tu tC tu ++ (w_Ff_ (ad_bc 103) ad_ff tC ff ++ (w_Pl_ (ad_bc 101) ad_pl tC pl ++ (w_Lw_ (ad_bc 102) ad_lw tC lw ++ (w_Ln_ (hL i0) (adL i0) tC ln9 ++ TL0)))))))) H := by rw [← Option.some.inj hln9]; exact hP
        have hD : va_D A (w_Bc_ h_bc ad_bc tC rf bc ++ (w_Sg_ (ad_bc 100) ad_sg tC sg ++ (w_Tr_ (ad_bc 104) ad_tr tC tr ++ (w_Tr_ (ad_bc 105) ad_tu tC tu ++ (w_Ff_ (ad_bc 103) ad_ff tC ff ++ (w_Pl_ (ad_bc 101) ad_pl tC pl ++ (w_Lw_ (ad_bc 102) ad_lw tC lw ++ (w_Ln_ (hL i0) (adL i0) tC ln9 ++ TL0)))))))) := by rw [← Option.some.inj hln9]; exact hD
        refine lv_aload hx hb d_Bc_place_52 (lv_at hl 0 rfl) ?_
        refine lv_lload hx hb d_Bc_place_54 (lv_at hl 5 rfl) ?_
        refine lv_l2i (v := p4.toInt32) hx hb d_Bc_place_56 rfl ?_
        refine va_put (D := (dC, dI)) (ci := 2) (v := .int p4.toInt32) (ty := .int) (C := RX2) (T := TX2) (N := 9) hx hb hts in_X2 tyX2 tyX2_ok nmX2 hown hK hP hD hS 38 (fs := [.int (ln9.1 0), .ref (adL i0 100), .int (ln9.1 1), .int (ln9.1 2), .ref (adL i0 0), .int (ln9.1 3), .int (ln9.1 4), .int (ln9.1 5), .int (ln9.1 6)]) rfl rfl 8 (by decide) (hts _ kF_8_187) (fun _ h9 => h9) rfl (by decide +kernel) (rfl) (rfl) (Nat.le_of_ble_eq_true rfl) d_Bc_place_57 (fun H locs hP hD hS => ?_)
        rw [sr_Bc, sr_Sg, sr_Tr, sr_Tr, sr_Ff, sr_Pl, sr_Lw, sl_Ln_0, wu_Ln_s6] at hP hD
        obtain ⟨ln10, hln10, hf⟩ := op_b hf
        have hP : va_P (dC, dI) vwCl (w_Bc_ h_bc ad_bc tC rf bc ++ (w_Sg_ (ad_bc 100) ad_sg tC sg ++ (w_Tr_ (ad_bc 104) ad_tr tC tr ++ (w_Tr_ (ad_bc 105) ad_tu tC tu ++ (w_Ff_ (ad_bc 103) ad_ff tC ff ++ (w_Pl_ (ad_bc 101) ad_pl tC pl ++ (w_Lw_ (ad_bc 102) ad_lw tC lw ++ (w_Ln_ (hL i0) (adL i0) tC ln10 ++ TL0)))))))) H := by rw [← Option.some.inj hln10]; exact hP
        have hD : va_D A (w_Bc_ h_bc ad_bc tC rf bc ++ (w_Sg_ (ad_bc 100) ad_sg tC sg ++ (w_Tr_ (ad_bc 104) ad_tr tC tr ++ (w_Tr_ (ad_bc 105) ad_tu tC tu ++ (w_Ff_ (ad_bc 103) ad_ff tC ff ++ (w_Pl_ (ad_bc 101) ad_pl tC pl ++ (w_Lw_ (ad_bc 102) ad_lw tC lw ++ (w_Ln_ (hL i0) (adL i0) tC ln10 ++ TL0)))))))) := by rw [← Option.some.inj hln10]; exact hD
        refine lv_aload hx hb d_Bc_place_60 (lv_at hl 0 rfl) ?_
        refine lv_iconst (v := 1) hx hb d_Bc_place_62 (by decide) ?_
        refine va_put (D := (dC, dI)) (ci := 2) (v := .int 1) (ty := .boolean) (C := RX2) (T := TX2) (N := 9) hx hb hts in_X2 tyX2 tyX2_ok nmX2 hown hK hP hD hS 38 (fs := [.int (ln10.1 0), .ref (adL i0 100), .int (ln10.1 1), .int (ln10.1 2), .ref (adL i0 0), .int (ln10.1 3), .int (ln10.1 4), .int (ln10.1 5), .int (ln10.1 6)]) rfl rfl 5 (by decide) (hts _ kF_8_190) (fun _ h9 => h9) rfl (by decide +kernel) (by decide) (by decide) (Nat.le_of_ble_eq_true rfl) d_Bc_place_63 (fun H locs hP hD hS => ?_)
        rw [sr_Bc, sr_Sg, sr_Tr, sr_Tr, sr_Ff, sr_Pl, sr_Lw, sl_Ln_0, wu_Ln_s3] at hP hD
        obtain ⟨ln11, hln11, hf⟩ := op_b hf
        have hP : va_P (dC, dI) vwCl (w_Bc_ h_bc ad_bc tC rf bc ++ (w_Sg_ (ad_bc 100) ad_sg tC sg ++ (w_Tr_ (ad_bc 104) ad_tr tC tr ++ (w_Tr_ (ad_bc 105) ad_tu tC tu ++ (w_Ff_ (ad_bc 103) ad_ff tC ff ++ (w_Pl_ (ad_bc 101) ad_pl tC pl ++ (w_Lw_ (ad_bc 102) ad_lw tC lw ++ (w_Ln_ (hL i0) (adL i0) tC ln11 ++ TL0)))))))) H := by rw [← Option.some.inj hln11]; exact hP
        have hD : va_D A (w_Bc_ h_bc ad_bc tC rf bc ++ (w_Sg_ (ad_bc 100) ad_sg tC sg ++ (w_Tr_ (ad_bc 104) ad_tr tC tr ++ (w_Tr_ (ad_bc 105) ad_tu tC tu ++ (w_Ff_ (ad_bc 103) ad_ff tC ff ++ (w_Pl_ (ad_bc 101) ad_pl tC pl ++ (w_Lw_ (ad_bc 102) ad_lw tC lw ++ (w_Ln_ (hL i0) (adL i0) tC ln11 ++ TL0)))))))) := by rw [← Option.some.inj hln11]; exact hD
        refine lv_iconst (v := 1) hx hb d_Bc_place_66 (by decide) ?_
        obtain rfl := Option.some.inj hf
        subst hQ
        subst hAe
        exact W.zret (v := 1) (ty := .boolean) hx hb hr (by decide) (fun t ht hW => ⟨⟨_, _, rfl, ⟨rfl, rfl⟩, by rw [ht]; exact hP, hD⟩, hS.F ht⟩) hS.2.2 d_Bc_place_67
      · have hf := op_t hf c7
        refine lv_iconst (v := 0) hx hb d_Bc_place_35 (by decide) ?_
        obtain rfl := Option.some.inj hf
        subst hQ
        subst hAe
        exact W.zret (v := 0) (ty := .boolean) hx hb hr (by decide) (fun t ht hW => ⟨⟨_, _, rfl, ⟨rfl, rfl⟩, by rw [ht]; exact hP, hD⟩, hS.F ht⟩) hS.2.2 d_Bc_place_36
