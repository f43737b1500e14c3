def f_Sf_add (sf : MS) (p1 : Int32) (p2 : Int32) : Option (Int32 × MS) := (if (sf.1 0) < 3 then if ix (sf.1 0) 3 then (some (sA sf 0 (upd (sf.2.1 0) (sf.1 0).toNatClampNeg p1))).bind fun sf3 => if ix (sf3.1 0) 3 then (some (sA sf3 1 (upd (sf3.2.1 1) (sf3.1 0).toNatClampNeg p2))).bind fun sf5 => (some (sI sf5 0 ((sf5.1 0) + 1))).bind fun sf6 => some (1, sf6) else none else none else some (0, sf))
def rm_Sf_add : Room := { frames := 0, cells := 0, slots := 0, locals := 0 }
set_option maxHeartbeats 4000000 in
set_option maxRecDepth 100000 in
theorem m_Sf_add (l : Launch) (dC : Nat → ClassId) (dI : Nat → Nat → Nat) (tC : Nat → ClassId) (h_sf : Nat) (ad_sf : Nat → Nat) (sf : MS) (p1 : Int32) (p2 : Int32) (R : Int32 × MS) (hf : f_Sf_add sf p1 p2 = some R) (sz : Nat) : Met l y_Sf_add w_Sf_add rm_Sf_add (wrP (dC, dI) tC (w_Sf_ h_sf ad_sf tC sf) sz [.ref h_sf, .int p1, .int p2]) (wrQ (dC, dI) (w_Sf_ h_sf ad_sf tC sf) sz (fun r w => r = (some (.int R.1)) ∧ w = (w_Sf_ h_sf ad_sf tC R.2))) 0 0 (va_A (w_Sf_ h_sf ad_sf tC sf) sz) := by
  refine Met.ofW (cc := c_Sf_add) (maxL := 3) (ret := (some (.boolean))) (by decide) rfl ?_
  intro p e s m args below meth c s₁ B hml hv
  obtain ⟨hav, hsz, hP, hK, hD0⟩ := hv
  have hx := B.exec
  have hb := B.bytes
  have hr := B.returns
  have hts : ∀ w ∈ gw, w.before args s = true := fun w h => atoms_spec (ws := w_Sf_add) B.pre w (List.mem_cons_of_mem _ h)
  have hown : s.vm.findClass RX5 = some m.cls := findClass_of_methodNamed B.named
  have hlocks := B.notSynchronized
  subst hsz
  have hD := hD0.self (sz := s.heap.size)
  obtain ⟨A, hAe⟩ : ∃ z, z = va_A (w_Sf_ h_sf ad_sf tC sf) s.heap.size := ⟨_, rfl⟩
  rw [← hAe] at hD
  have hA : ∀ q : Nat, s.heap.size ≤ q → A q := fun q h => by rw [hAe]; exact Or.inr h
  have hS : va_S A s.heap s.heap [] := va_S.rf
  refine q_w (R := rm_Sf_add) (fun Q hQ => ?_)
  refine en_w (av := [.ref h_sf, .int p1, .int p2]) hav (Nat.le_of_ble_eq_true rfl) (fun ls hl => ?_)
  have hl : lv_has ls 3 [(0, .ref h_sf), (1, .int p1), (2, .int p2)] := hl
  unfold f_Sf_add at hf
  refine lv_aload_n hx hb d_Sf_add_0 rfl (lv_at hl 0 rfl) ?_
  refine va_get (D := (dC, dI)) (ci := 5) (v := .int (sf.1 0)) (C := RX5) (T := TX5) (N := 3) hx hb hts in_X5 hown hK hP 0 rfl rfl 2 (by decide) (hts _ kF_5_18) (fun _ h9 => h9) rfl d_Sf_add_1 ?_
  refine lv_iconst (v := 3) hx hb d_Sf_add_4 (by decide) ?_
  refine lv_icmp_lt (tgt := 10) hx hb d_Sf_add_5 (by decide) (fun c1 => ?_) (fun c1 => ?_)
  · have hf := op_t hf c1
    refine lv_aload_n hx hb d_Sf_add_10 rfl (lv_at hl 0 rfl) ?_
    refine va_get (D := (dC, dI)) (ci := 5) (v := .ref (ad_sf 0)) (C := RX5) (T := TX5) (N := 3) hx hb hts in_X5 hown hK hP 0 rfl rfl 0 (by decide) (hts _ kF_5_9) (fun _ h9 => h9) rfl d_Sf_add_11 ?_
    refine lv_aload_n hx hb d_Sf_add_14 rfl (lv_at hl 0 rfl) ?_
    refine va_get (D := (dC, dI)) (ci := 5) (v := .int (sf.1 0)) (C := RX5) (T := TX5) (N := 3) hx hb hts in_X5 hown hK hP 0 rfl rfl 2 (by decide) (hts _ kF_5_18) (fun _ h9 => h9) rfl d_Sf_add_15 ?_
    refine lv_iload_n hx hb d_Sf_add_18 rfl (lv_at hl 1 rfl) ?_
    obtain ⟨hi2, hf⟩ := op_if hf
    refine va_iast (f := sf.2.1 0) hx hb hK hP hD hS 1 0 rfl rfl (ix_in hi2) d_Sf_add_19 (fun H locs hP hD hS => ?_)
    rw [wu_Sf_a0] at hP hD
    obtain ⟨sf3, hsf3, hf⟩ := op_b hf
    have hP : va_P (dC, dI) vwCl (w_Sf_ h_sf ad_sf tC sf3) H := by rw [← Option.some.inj hsf3]; exact hP
    have hD : va_D A (w_Sf_ h_sf ad_sf tC sf3) := by rw [← Option.some.inj hsf3]; exact hD
    refine lv_aload_n hx hb d_Sf_add_20 rfl (lv_at hl 0 rfl) ?_
    refine va_get (D := (dC, dI)) (ci := 5) (v := .ref (ad_sf 1)) (C := RX5) (T := TX5) (N := 3) hx hb hts in_X5 hown hK hP 0 rfl rfl 1 (by decide) (hts _ kF_5_15) (fun _ h9 => h9) rfl d_Sf_add_21 ?_
    refine lv_aload_n hx hb d_Sf_add_24 rfl (lv_at hl 0 rfl) ?_
    refine va_get (D := (dC, dI)) (ci := 5) (v := .int (sf3.1 0)) (C := RX5) (T := TX5) (N := 3) hx hb hts in_X5 hown hK hP 0 rfl rfl 2 (by decide) (hts _ kF_5_18) (fun _ h9 => h9) rfl d_Sf_add_25 ?_
    refine lv_iload_n hx hb d_Sf_add_28 rfl (lv_at hl 2 rfl) ?_
    obtain ⟨hi4, hf⟩ := op_if hf
    refine va_iast (f := sf3.2.1 1) hx hb hK hP hD hS 2 0 rfl rfl (ix_in hi4) d_Sf_add_29 (fun H locs hP hD hS => ?_)
    rw [wu_Sf_a1] at hP hD
    obtain ⟨sf5, hsf5, hf⟩ := op_b hf
    have hP : va_P (dC, dI) vwCl (w_Sf_ h_sf ad_sf tC sf5) H := by rw [← Option.some.inj hsf5]; exact hP
    have hD : va_D A (w_Sf_ h_sf ad_sf tC sf5) := by rw [← Option.some.inj hsf5]; exact hD
    refine lv_aload_n hx hb d_Sf_add_30 rfl (lv_at hl 0 rfl) ?_
    refine lv_dup hx hb d_Sf_add_31 rfl ?_
    refine va_get (D := (dC, dI)) (ci := 5) (v := .int (sf5.1 0)) (C := RX5) (T := TX5) (N := 3) hx hb hts in_X5 hown hK hP 0 rfl rfl 2 (by decide) (hts _ kF_5_18) (fun _ h9 => h9) rfl d_Sf_add_32 ?_
    refine lv_iconst (v := 1) hx hb d_Sf_add_35 (by decide) ?_
    refine lv_iadd hx hb d_Sf_add_36 ?_
    refine va_put (D := (dC, dI)) (ci := 5) (v := .int ((sf5.1 0) + 1)) (ty := .int) (C := RX5) (T := TX5) (N := 3) hx hb hts in_X5 tyX5 tyX5_ok nmX5 hown hK hP hD hS 0 (fs := [.ref (ad_sf 0), .ref (ad_sf 1), .int (sf5.1 0)]) rfl rfl 2 (by decide) (hts _ kF_5_18) (fun _ h9 => h9) rfl (by decide +kernel) (rfl) (rfl) (Nat.le_of_ble_eq_true rfl) d_Sf_add_37 (fun H locs hP hD hS => ?_)
    rw [wu_Sf_s0] at hP hD
    obtain ⟨sf6, hsf6, hf⟩ := op_b hf
    have hP : va_P (dC, dI) vwCl (w_Sf_ h_sf ad_sf tC sf6) H := by rw [← Option.some.inj hsf6]; exact hP
    have hD : va_D A (w_Sf_ h_sf ad_sf tC sf6) := by rw [← Option.some.inj hsf6]; exact hD
    refine lv_iconst (v := 1) hx hb d_Sf_add_40 (by decide) ?_
    obtain rfl := Option.some.inj hf
    subst hQ
    subst hAe
    exact W.zret (v := 1) (ty := .boolean) hx hb hr (by decide) (fun t ht hW => ⟨⟨_, _, rfl, ⟨rfl, rfl⟩, by rw [ht]; exact hP, hD⟩, hS.F ht⟩) hS.2.2 d_Sf_add_41
  · have hf := op_e hf c1
    refine lv_iconst (v := 0) hx hb d_Sf_add_8 (by decide) ?_
    obtain rfl := Option.some.inj hf
    subst hQ
    subst hAe
    exact W.zret (v := 0) (ty := .boolean) hx hb hr (by decide) (fun t ht hW => ⟨⟨_, _, rfl, ⟨rfl, rfl⟩, by rw [ht]; exact hP, hD⟩, hS.F ht⟩) hS.2.2 d_Sf_add_9
def l_Sf_greatest_4 : Nat → Int32 → Int32 → MS → Option (Int32 × Int32)
  | 0, _, _, _ => none
  | n + 1, x1, x2, sf => (if (sf.1 0) ≤ x2 then some (x1, x2) else if ix x2 3 then (some (if x1 < ((sf.2.1 0) x2.toNatClampNeg) then ((sf.2.1 0) x2.toNatClampNeg) else x1) : Option Int32).bind fun v4 => l_Sf_greatest_4 n v4 (x2 + 1) sf else none)
def f_Sf_greatest (sf : MS) : Option (Int32) := (l_Sf_greatest_4 fu 0 0 sf).bind fun q1 => some q1.1
def rm_Sf_greatest : Room := { frames := 1, cells := 0, slots := 0, locals := 30 }
set_option maxHeartbeats 4000000 in
set_option maxRecDepth 100000 in
theorem m_Sf_greatest (l : Launch) (dC : Nat → ClassId) (dI : Nat → Nat → Nat) (tC : Nat → ClassId) (h_sf : Nat) (ad_sf : Nat → Nat) (sf : MS) (R : Int32) (H : Heap) (hP : va_P (dC, dI) vwCl (w_Sf_ h_sf ad_sf tC sf) H) (hf : f_Sf_greatest sf = some R) : Met l y_Sf_greatest w_Sf_greatest rm_Sf_greatest (roP (dC, dI) tC H [.ref h_sf]) (roQ H (some (.int R))) 0 0 (fun _ => False) := by
  refine Met.ofW (cc := c_Sf_greatest) (maxL := 3) (ret := (some (.int))) (by decide) rfl ?_
  intro p e s m args below meth c s₁ B hml hv
  obtain ⟨hav, hH, hK⟩ := hv
  have hx := B.exec
  have hb := B.bytes
  have hr := B.returns
  have hts : ∀ w ∈ gw, w.before args s = true := fun w h => atoms_spec (ws := w_Sf_greatest) B.pre w (List.mem_cons_of_mem _ h)
  have hown : s.vm.findClass RX5 = some m.cls := findClass_of_methodNamed B.named
  have hlocks := B.notSynchronized
  subst hH
  refine q_w (R := rm_Sf_greatest) (fun Q hQ => ?_)
  refine en_w (av := [.ref h_sf]) hav (Nat.le_of_ble_eq_true rfl) (fun ls hl => ?_)
  have hl : lv_has ls 3 [(0, .ref h_sf)] := hl
  unfold f_Sf_greatest at hf
  refine lv_iconst (v := 0) hx hb d_Sf_greatest_0 (by decide) ?_
  refine lv_istore_n (lv' := [(1, .int 0), (0, .ref h_sf)]) hx hb d_Sf_greatest_1 rfl hl (by decide) rfl (fun ls hl => ?_)
  refine lv_iconst (v := 0) hx hb d_Sf_greatest_2 (by decide) ?_
  refine lv_istore_n (lv' := [(2, .int 0), (1, .int 0), (0, .ref h_sf)]) hx hb d_Sf_greatest_3 rfl hl (by decide) rfl (fun ls hl => ?_)
  have lp_4 : ∀ (n : Nat) (x1 : Int32) (x2 : Int32) (Rl : Int32 × Int32), l_Sf_greatest_4 n x1 x2 sf = some Rl → ∀ ls : Array Slot, lv_has ls 3 [(2, .int x2), (1, .int x1), (0, .ref h_sf)] → (∀ ls : Array Slot, lv_has ls 3 [(2, .int Rl.2), (1, .int Rl.1), (0, .ref h_sf)] → W p l e rm_Sf_greatest s m args below meth c s.heap [] 0 0 Q (F0 m 29 ls [])) → W p l e rm_Sf_greatest s m args below meth c s.heap [] 0 0 Q (F0 m 4 ls []) := by
    intro n
    induction n with
    | zero => intro x1 x2 Rl hf; cases hf
    | succ n ih_4 =>
      intro x1 x2 Rl hf ls hl Kk
      rw [l_Sf_greatest_4] at hf
      refine lv_iload_n hx hb d_Sf_greatest_4 rfl (lv_at hl 0 rfl) ?_
      refine lv_aload_n hx hb d_Sf_greatest_5 rfl (lv_at hl 2 rfl) ?_
      refine va_get (D := (dC, dI)) (ci := 5) (v := .int (sf.1 0)) (C := RX5) (T := TX5) (N := 3) hx hb hts in_X5 hown hK hP 0 rfl rfl 2 (by decide) (hts _ kF_5_18) (fun _ h9 => h9) rfl d_Sf_greatest_6 ?_
      refine lv_icmp_ge (tgt := 29) hx hb d_Sf_greatest_9 (by decide) (fun c2 => ?_) (fun c2 => ?_)
      · have hf := op_t hf c2
        obtain rfl := Option.some.inj hf
        exact Kk _ (lv_sub hl [0, 1, 2] rfl)
      · have hf := op_e hf c2
        refine lv_iload_n hx hb d_Sf_greatest_12 rfl (lv_at hl 1 rfl) ?_
        refine lv_aload_n hx hb d_Sf_greatest_13 rfl (lv_at hl 2 rfl) ?_
        refine va_get (D := (dC, dI)) (ci := 5) (v := .ref (ad_sf 0)) (C := RX5) (T := TX5) (N := 3) hx hb hts in_X5 hown hK hP 0 rfl rfl 0 (by decide) (hts _ kF_5_9) (fun _ h9 => h9) rfl d_Sf_greatest_14 ?_
        refine lv_iload_n hx hb d_Sf_greatest_17 rfl (lv_at hl 0 rfl) ?_
        obtain ⟨hi3, hf⟩ := op_if hf
        refine va_iald (f := sf.2.1 0) hx hb hK hP 1 0 rfl rfl (ix_in hi3) d_Sf_greatest_18 ?_
        refine va_mmax hx hb (hml.trans hl.1.symm) hown (hts _ kM_5_22) (hts _ kS_max) (hts _ kZ_Math) (hts _ kC_max) (Nat.le_of_ble_eq_true rfl) (Nat.le_of_ble_eq_true rfl) (Nat.le_of_ble_eq_true rfl) (Nat.le_of_ble_eq_true rfl) d_Sf_greatest_19 ?_
        obtain ⟨v4, hv4, hf⟩ := op_b hf
        refine rw_i (y := v4) (Option.some.inj hv4) ?_
        refine lv_istore_n (lv' := [(1, .int v4), (2, .int x2), (0, .ref h_sf)]) hx hb d_Sf_greatest_22 rfl hl (by decide) rfl (fun ls hl => ?_)
        refine lv_iinc (v := x2 + 1) (lv' := [(2, .int (x2 + 1)), (1, .int v4), (0, .ref h_sf)]) hx hb d_Sf_greatest_23 hl (k := 1) rfl rfl (by decide) rfl (fun ls hl => ?_)
        refine lv_goto (tgt := 4) hx hb d_Sf_greatest_26 (by decide) ?_
        exact ih_4 v4 (x2 + 1) Rl hf _ (lv_sub hl [0, 1, 2] rfl) Kk
  obtain ⟨q1, hq1, hf⟩ := op_b hf
  refine lp_4 fu 0 0 q1 hq1 _ (lv_sub hl [0, 1, 2] rfl) ?_
  intro ls hl
  refine lv_iload_n hx hb d_Sf_greatest_29 rfl (lv_at hl 1 rfl) ?_
  obtain rfl := Option.some.inj hf
  subst hQ
  exact W.iret (v := q1.1) hx hb hr (fun t ht hW => ⟨rfl, ht⟩) (fun q h => by cases h) d_Sf_greatest_30
def f_Sh_bendBefore (sh_nT : Nat) (sh : MS) (p1 : Int32) : Option (Int32) := (some ((2 * p1) - 1) : Option Int32).bind fun v1 => (if v1 ≤ 0 then some 32 else (if (Int32.ofNat sh_nT) ≤ v1 then some 32 else if ix v1 sh_nT then some ((sh.2.1 0) v1.toNatClampNeg) else none))
def rm_Sh_bendBefore : Room := { frames := 0, cells := 0, slots := 0, locals := 0 }
set_option maxHeartbeats 4000000 in
set_option maxRecDepth 100000 in
theorem m_Sh_bendBefore (l : Launch) (dC : Nat → ClassId) (dI : Nat → Nat → Nat) (tC : Nat → ClassId) (h_sh : Nat) (ad_sh : Nat → Nat) (sh_nT : Nat) (sh : MS) (p1 : Int32) (R : Int32) (H : Heap) (hP : va_P (dC, dI) vwCl (w_Sh_ h_sh ad_sh tC sh_nT sh) H) (hf : f_Sh_bendBefore sh_nT sh p1 = some R) : Met l y_Sh_bendBefore w_Sh_bendBefore rm_Sh_bendBefore (roP (dC, dI) tC H [.ref h_sh, .int p1]) (roQ H (some (.int R))) 0 0 (fun _ => False) := by
  refine Met.ofW (cc := c_Sh_bendBefore) (maxL := 3) (ret := (some (.int))) (by decide) rfl ?_
  intro p e s m args below meth c s₁ B hml hv
  obtain ⟨hav, hH, hK⟩ := hv
  have hx := B.exec
  have hb := B.bytes
  have hr := B.returns
  have hts : ∀ w ∈ gw, w.before args s = true := fun w h => atoms_spec (ws := w_Sh_bendBefore) B.pre w (List.mem_cons_of_mem _ h)
  have hown : s.vm.findClass RX4 = some m.cls := findClass_of_methodNamed B.named
  have hlocks := B.notSynchronized
  subst hH
  refine q_w (R := rm_Sh_bendBefore) (fun Q hQ => ?_)
  refine en_w (av := [.ref h_sh, .int p1]) hav (Nat.le_of_ble_eq_true rfl) (fun ls hl => ?_)
  have hl : lv_has ls 3 [(0, .ref h_sh), (1, .int p1)] := hl
  unfold f_Sh_bendBefore at hf
  refine lv_iconst (v := 2) hx hb d_Sh_bendBefore_0 (by decide) ?_
  refine lv_iload_n hx hb d_Sh_bendBefore_1 rfl (lv_at hl 1 rfl) ?_
  refine lv_imul hx hb d_Sh_bendBefore_2 ?_
  refine lv_iconst (v := 1) hx hb d_Sh_bendBefore_3 (by decide) ?_
  refine lv_isub hx hb d_Sh_bendBefore_4 ?_
  obtain ⟨v1, hv1, hf⟩ := op_b hf
  refine rw_i (y := v1) (Option.some.inj hv1) ?_
  refine lv_istore_n (lv' := [(2, .int v1), (0, .ref h_sh), (1, .int p1)]) hx hb d_Sh_bendBefore_5 rfl hl (by decide) rfl (fun ls hl => ?_)
  refine lv_iload_n hx hb d_Sh_bendBefore_6 rfl (lv_at hl 0 rfl) ?_
  refine lv_if_le (tgt := 28) hx hb d_Sh_bendBefore_7 (by decide) (fun c2 => ?_) (fun c2 => ?_)
  · have hf := op_t hf c2
    refine lv_bipush (v := 32) hx hb d_Sh_bendBefore_28 (by decide) ?_
    obtain rfl := Option.some.inj hf
    subst hQ
    exact W.iret (v := 32) hx hb hr (fun t ht hW => ⟨rfl, ht⟩) (fun q h => by cases h) d_Sh_bendBefore_30
  · have hf := op_e hf c2
    refine lv_iload_n hx hb d_Sh_bendBefore_10 rfl (lv_at hl 0 rfl) ?_
    refine lv_aload_n hx hb d_Sh_bendBefore_11 rfl (lv_at hl 1 rfl) ?_
    refine va_get (D := (dC, dI)) (ci := 4) (v := .ref (ad_sh 0)) (C := RX4) (T := TX4) (N := 3) hx hb hts in_X4 hown hK hP 0 rfl rfl 0 (by decide) (hts _ kF_4_7) (fun _ h9 => h9) rfl d_Sh_bendBefore_12 ?_
    refine va_alen hx hb hK hP 1 2 rfl rfl (v := Int32.ofNat sh_nT) rfl d_Sh_bendBefore_15 ?_
    refine lv_icmp_ge (tgt := 28) hx hb d_Sh_bendBefore_16 (by decide) (fun c3 => ?_) (fun c3 => ?_)
    · have hf := op_t hf c3
      refine lv_bipush (v := 32) hx hb d_Sh_bendBefore_28 (by decide) ?_
      obtain rfl := Option.some.inj hf
      subst hQ
      exact W.iret (v := 32) hx hb hr (fun t ht hW => ⟨rfl, ht⟩) (fun q h => by cases h) d_Sh_bendBefore_30
    · have hf := op_e hf c3
      refine lv_aload_n hx hb d_Sh_bendBefore_19 rfl (lv_at hl 1 rfl) ?_
      refine va_get (D := (dC, dI)) (ci := 4) (v := .ref (ad_sh 0)) (C := RX4) (T := TX4) (N := 3) hx hb hts in_X4 hown hK hP 0 rfl rfl 0 (by decide) (hts _ kF_4_7) (fun _ h9 => h9) rfl d_Sh_bendBefore_20 ?_
      refine lv_iload_n hx hb d_Sh_bendBefore_23 rfl (lv_at hl 0 rfl) ?_
      obtain ⟨hi4, hf⟩ := op_if hf
      refine va_cald (f := sh.2.1 0) hx hb hK hP 1 2 rfl rfl (ix_in hi4) d_Sh_bendBefore_24 ?_
      refine lv_goto (tgt := 30) hx hb d_Sh_bendBefore_25 (by decide) ?_
      obtain rfl := Option.some.inj hf
      subst hQ
      exact W.iret (v := (sh.2.1 0) v1.toNatClampNeg) hx hb hr (fun t ht hW => ⟨rfl, ht⟩) (fun q h => by cases h) d_Sh_bendBefore_30
def l_Ln_sumOfLegs_4 : Nat → Int32 → Int32 → MS → Option (Int32 × Int32)
  | 0, _, _, _ => none
  | n + 1, x1, x2, ln => (if (Int32.ofNat 6) ≤ x2 then some (x1, x2) else if ix x2 6 then (some (x1 + ((ln.2.1 0) x2.toNatClampNeg)) : Option Int32).bind fun v4 => l_Ln_sumOfLegs_4 n v4 (x2 + 1) ln else none)
def f_Ln_sumOfLegs (ln : MS) : Option (Int32) := (l_Ln_sumOfLegs_4 fu 0 0 ln).bind fun q1 => some q1.1
def rm_Ln_sumOfLegs : Room := { frames := 0, cells := 0, slots := 0, locals := 0 }
set_option maxHeartbeats 4000000 in
set_option maxRecDepth 100000 in
theorem m_Ln_sumOfLegs (l : Launch) (dC : Nat → ClassId) (dI : Nat → Nat → Nat) (tC : Nat → ClassId) (h_ln : Nat) (ad_ln : Nat → Nat) (ln : MS) (R : Int32) (H : Heap) (hP : va_P (dC, dI) vwCl (w_Ln_ h_ln ad_ln tC ln) H) (hf : f_Ln_sumOfLegs ln = some R) : Met l y_Ln_sumOfLegs w_Ln_sumOfLegs rm_Ln_sumOfLegs (roP (dC, dI) tC H [.ref h_ln]) (roQ H (some (.int R))) 0 0 (fun _ => False) := by
  refine Met.ofW (cc := c_Ln_sumOfLegs) (maxL := 3) (ret := (some (.int))) (by decide) rfl ?_
  intro p e s m args below meth c s₁ B hml hv
  obtain ⟨hav, hH, hK⟩ := hv
  have hx := B.exec
  have hb := B.bytes
  have hr := B.returns
  have hts : ∀ w ∈ gw, w.before args s = true := fun w h => atoms_spec (ws := w_Ln_sumOfLegs) B.pre w (List.mem_cons_of_mem _ h)
  have hown : s.vm.findClass RX2 = some m.cls := findClass_of_methodNamed B.named
  have hlocks := B.notSynchronized
  subst hH
  refine q_w (R := rm_Ln_sumOfLegs) (fun Q hQ => ?_)
  refine en_w (av := [.ref h_ln]) hav (Nat.le_of_ble_eq_true rfl) (fun ls hl => ?_)
  have hl : lv_has ls 3 [(0, .ref h_ln)] := hl
  unfold f_Ln_sumOfLegs at hf
  refine lv_iconst (v := 0) hx hb d_Ln_sumOfLegs_0 (by decide) ?_
  refine lv_istore_n (lv' := [(1, .int 0), (0, .ref h_ln)]) hx hb d_Ln_sumOfLegs_1 rfl hl (by decide) rfl (fun ls hl => ?_)
  refine lv_iconst (v := 0) hx hb d_Ln_sumOfLegs_2 (by decide) ?_
  refine lv_istore_n (lv' := [(2, .int 0), (1, .int 0), (0, .ref h_ln)]) hx hb d_Ln_sumOfLegs_3 rfl hl (by decide) rfl (fun ls hl => ?_)
  have lp_4 : ∀ (n : Nat) (x1 : Int32) (x2 : Int32) (Rl : Int32 × Int32), l_Ln_sumOfLegs_4 n x1 x2 ln = some Rl → ∀ ls : Array Slot, lv_has ls 3 [(2, .int x2), (1, .int x1), (0, .ref h_ln)] → (∀ ls : Array Slot, lv_has ls 3 [(2, .int Rl.2), (1, .int Rl.1), (0, .ref h_ln)] → W p l e rm_Ln_sumOfLegs s m args below meth c s.heap [] 0 0 Q (F0 m 28 ls [])) → W p l e rm_Ln_sumOfLegs s m args below meth c s.heap [] 0 0 Q (F0 m 4 ls []) := by
    intro n
    induction n with
    | zero => intro x1 x2 Rl hf; cases hf
    | succ n ih_4 =>
      intro x1 x2 Rl hf ls hl Kk
      rw [l_Ln_sumOfLegs_4] at hf
      refine lv_iload_n hx hb d_Ln_sumOfLegs_4 rfl (lv_at hl 0 rfl) ?_
      refine lv_aload_n hx hb d_Ln_sumOfLegs_5 rfl (lv_at hl 2 rfl) ?_
      refine va_get (D := (dC, dI)) (ci := 2) (v := .ref (ad_ln 0)) (C := RX2) (T := TX2) (N := 9) hx hb hts in_X2 hown hK hP 0 rfl rfl 4 (by decide) (hts _ kF_2_9) (fun _ h9 => h9) rfl d_Ln_sumOfLegs_6 ?_
      refine va_alen hx hb hK hP 1 0 rfl rfl (v := Int32.ofNat 6) rfl d_Ln_sumOfLegs_9 ?_
      refine lv_icmp_ge (tgt := 28) hx hb d_Ln_sumOfLegs_10 (by decide) (fun c2 => ?_) (fun c2 => ?_)
      · have hf := op_t hf c2
        obtain rfl := Option.some.inj hf
        exact Kk _ (lv_sub hl [0, 1, 2] rfl)
      · have hf := op_e hf c2
        refine lv_iload_n hx hb d_Ln_sumOfLegs_13 rfl (lv_at hl 1 rfl) ?_
        refine lv_aload_n hx hb d_Ln_sumOfLegs_14 rfl (lv_at hl 2 rfl) ?_
        refine va_get (D := (dC, dI)) (ci := 2) (v := .ref (ad_ln 0)) (C := RX2) (T := TX2) (N := 9) hx hb hts in_X2 hown hK hP 0 rfl rfl 4 (by decide) (hts _ kF_2_9) (fun _ h9 => h9) rfl d_Ln_sumOfLegs_15 ?_
        refine lv_iload_n hx hb d_Ln_sumOfLegs_18 rfl (lv_at hl 0 rfl) ?_
        obtain ⟨hi3, hf⟩ := op_if hf
        refine va_iald (f := ln.2.1 0) hx hb hK hP 1 0 rfl rfl (ix_in hi3) d_Ln_sumOfLegs_19 ?_
        refine lv_iadd hx hb d_Ln_sumOfLegs_20 ?_
        obtain ⟨v4, hv4, hf⟩ := op_b hf
        refine rw_i (y := v4) (Option.some.inj hv4) ?_
        refine lv_istore_n (lv' := [(1, .int v4), (2, .int x2), (0, .ref h_ln)]) hx hb d_Ln_sumOfLegs_21 rfl hl (by decide) rfl (fun ls hl => ?_)
        refine lv_iinc (v := x2 + 1) (lv' := [(2, .int (x2 + 1)), (1, .int v4), (0, .ref h_ln)]) hx hb d_Ln_sumOfLegs_22 hl (k := 1) rfl rfl (by decide) rfl (fun ls hl => ?_)
        refine lv_goto (tgt := 4) hx hb d_Ln_sumOfLegs_25 (by decide) ?_
        exact ih_4 v4 (x2 + 1) Rl hf _ (lv_sub hl [0, 1, 2] rfl) Kk
  obtain ⟨q1, hq1, hf⟩ := op_b hf
  refine lp_4 fu 0 0 q1 hq1 _ (lv_sub hl [0, 1, 2] rfl) ?_
  intro ls hl
  refine lv_iload_n hx hb d_Ln_sumOfLegs_28 rfl (lv_at hl 1 rfl) ?_
  obtain rfl := Option.some.inj hf
  subst hQ
  exact W.iret (v := q1.1) hx hb hr (fun t ht hW => ⟨rfl, ht⟩) (fun q h => by cases h) d_Ln_sumOfLegs_29
def l_Ln_allLegsTold_2 : Nat → Int32 → Nat → MS → MS → Option (Int32)
  | 0, _, _, _, _ => none
  | n + 1, x1, sh_nT, ln, sh => (if (sh.1 0) ≤ x1 then some 1 else if ix x1 6 then (if ((ln.2.1 0) x1.toNatClampNeg) = 0 then some 0 else l_Ln_allLegsTold_2 n (x1 + 1) sh_nT ln sh) else none)
def f_Ln_allLegsTold (ln : MS) (sh_nT : Nat) (sh : MS) : Option (Int32) := l_Ln_allLegsTold_2 fu 0 sh_nT ln sh
def rm_Ln_allLegsTold : Room := { frames := 0, cells := 0, slots := 0, locals := 0 }
set_option maxHeartbeats 4000000 in
set_option maxRecDepth 100000 in
theorem m_Ln_allLegsTold (l : Launch) (dC : Nat → ClassId) (dI : Nat → Nat → Nat) (tC : Nat → ClassId) (h_ln : Nat) (ad_ln : Nat → Nat) (ln : MS) (ad_sh : Nat → Nat) (sh_nT : Nat) (sh : MS) (R : Int32) (H : Heap) (hP : va_P (dC, dI) vwCl (w_Ln_ h_ln ad_ln tC ln ++ w_Sh_ (ad_ln 100) ad_sh tC sh_nT sh) H) (hf : f_Ln_allLegsTold ln sh_nT sh = some R) : Met l y_Ln_allLegsTold w_Ln_allLegsTold rm_Ln_allLegsTold (roP (dC, dI) tC H [.ref h_ln]) (roQ H (some (.int R))) 0 0 (fun _ => False) := by
  refine Met.ofW (cc := c_Ln_allLegsTold) (maxL := 2) (ret := (some (.boolean))) (by decide) rfl ?_
  intro p e s m args below meth c s₁ B hml hv
  obtain ⟨hav, hH, hK⟩ := hv
  have hx := B.exec
  have hb := B.bytes
  have hr := B.returns
  have hts : ∀ w ∈ gw, w.before args s = true := fun w h => atoms_spec (ws := w_Ln_allLegsTold) B.pre w (List.mem_cons_of_mem _ h)
  have hown : s.vm.findClass RX2 = some m.cls := findClass_of_methodNamed B.named
  have hlocks := B.notSynchronized
  subst hH
  refine q_w (R := rm_Ln_allLegsTold) (fun Q hQ => ?_)
  refine en_w (av := [.ref h_ln]) hav (Nat.le_of_ble_eq_true rfl) (fun ls hl => ?_)
  have hl : lv_has ls 2 [(0, .ref h_ln)] := hl
  unfold f_Ln_allLegsTold at hf
  refine lv_iconst (v := 0) hx hb d_Ln_allLegsTold_0 (by decide) ?_
  refine lv_istore_n (lv' := [(1, .int 0), (0, .ref h_ln)]) hx hb d_Ln_allLegsTold_1 rfl hl (by decide) rfl (fun ls hl => ?_)
  have lp_2 : ∀ (n : Nat) (x1 : Int32), l_Ln_allLegsTold_2 n x1 sh_nT ln sh = some R → ∀ ls : Array Slot, lv_has ls 2 [(1, .int x1), (0, .ref h_ln)] → W p l e rm_Ln_allLegsTold s m args below meth c s.heap [] 0 0 Q (F0 m 2 ls []) := by
    intro n
    induction n with
    | zero => intro x1 hf; cases hf
    | succ n ih_2 =>
      intro x1 hf ls hl
      rw [l_Ln_allLegsTold_2] at hf
      refine lv_iload_n hx hb d_Ln_allLegsTold_2 rfl (lv_at hl 0 rfl) ?_
      refine lv_aload_n hx hb d_Ln_allLegsTold_3 rfl (lv_at hl 1 rfl) ?_
      refine va_get (D := (dC, dI)) (ci := 2) (v := .ref (ad_ln 100)) (C := RX2) (T := TX2) (N := 9) hx hb hts in_X2 hown hK hP 0 rfl rfl 1 (by decide) (hts _ kF_2_19) (fun _ h9 => h9) rfl d_Ln_allLegsTold_4 ?_
      refine va_get (D := (dC, dI)) (ci := 4) (v := .int (sh.1 0)) (C := RX4) (T := TX4) (N := 3) hx hb hts in_X4 hown hK hP 2 rfl rfl 1 (by decide) (hts _ kF_2_29) (fun _ h9 => h9) rfl d_Ln_allLegsTold_7 ?_
      refine lv_icmp_ge (tgt := 30) hx hb d_Ln_allLegsTold_10 (by decide) (fun c1 => ?_) (fun c1 => ?_)
      · have hf := op_t hf c1
        refine lv_iconst (v := 1) hx hb d_Ln_allLegsTold_30 (by decide) ?_
        obtain rfl := Option.some.inj hf
        subst hQ
        exact W.zret (v := 1) (ty := .boolean) hx hb hr (by decide) (fun t ht hW => ⟨rfl, ht⟩) (fun q h => by cases h) d_Ln_allLegsTold_31
      · have hf := op_e hf c1
        refine lv_aload_n hx hb d_Ln_allLegsTold_13 rfl (lv_at hl 1 rfl) ?_
        refine va_get (D := (dC, dI)) (ci := 2) (v := .ref (ad_ln 0)) (C := RX2) (T := TX2) (N := 9) hx hb hts in_X2 hown hK hP 0 rfl rfl 4 (by decide) (hts _ kF_2_9) (fun _ h9 => h9) rfl d_Ln_allLegsTold_14 ?_
        refine lv_iload_n hx hb d_Ln_allLegsTold_17 rfl (lv_at hl 0 rfl) ?_
        obtain ⟨hi2, hf⟩ := op_if hf
        refine va_iald (f := ln.2.1 0) hx hb hK hP 1 0 rfl rfl (ix_in hi2) d_Ln_allLegsTold_18 ?_
        refine lv_if_ne (tgt := 24) hx hb d_Ln_allLegsTold_19 (by decide) (fun c3 => ?_) (fun c3 => ?_)
        · have hf := op_e hf c3
          refine lv_iinc (v := x1 + 1) (lv' := [(1, .int (x1 + 1)), (0, .ref h_ln)]) hx hb d_Ln_allLegsTold_24 hl (k := 0) rfl rfl (by decide) rfl (fun ls hl => ?_)
          refine lv_goto (tgt := 2) hx hb d_Ln_allLegsTold_27 (by decide) ?_
          exact ih_2 (x1 + 1) hf _ (lv_sub hl [0, 1] rfl)
        · have hf := op_t hf c3
          refine lv_iconst (v := 0) hx hb d_Ln_allLegsTold_22 (by decide) ?_
          obtain rfl := Option.some.inj hf
          subst hQ
          exact W.zret (v := 0) (ty := .boolean) hx hb hr (by decide) (fun t ht hW => ⟨rfl, ht⟩) (fun q h => by cases h) d_Ln_allLegsTold_23
  exact lp_2 fu 0 hf _ (lv_sub hl [0, 1] rfl)
def f_Ln_thing (ln : MS) (p1 : Int32) : Option (Int32) := (if p1 = 0 then some (ln.1 0) else (if p1 = 1 then some (ln.1 1) else (if p1 = 2 then some (ln.1 2) else (some (p1 - 3) : Option Int32).bind fun v1 => (if v1 < 0 then some 0 else (if (Int32.ofNat 6) ≤ v1 then some 0 else if ix v1 6 then some ((ln.2.1 0) v1.toNatClampNeg) else none)))))
def rm_Ln_thing : Room := { frames := 0, cells := 0, slots := 0, locals := 0 }
set_option maxHeartbeats 4000000 in
set_option maxRecDepth 100000 in
theorem m_Ln_thing (l : Launch) (dC : Nat → ClassId) (dI : Nat → Nat → Nat) (tC : Nat → ClassId) (h_ln : Nat) (ad_ln : Nat → Nat) (ln : MS) (p1 : Int32) (R : Int32) (H : Heap) (hP : va_P (dC, dI) vwCl (w_Ln_ h_ln ad_ln tC ln) H) (hf : f_Ln_thing ln p1 = some R) : Met l y_Ln_thing w_Ln_thing rm_Ln_thing (roP (dC, dI) tC H [.ref h_ln, .int p1]) (roQ H (some (.int R))) 0 0 (fun _ => False) := by
  refine Met.ofW (cc := c_Ln_thing) (maxL := 3) (ret := (some (.int))) (by decide) rfl ?_
  intro p e s m args below meth c s₁ B hml hv
  obtain ⟨hav, hH, hK⟩ := hv
  have hx := B.exec
  have hb := B.bytes
  have hr := B.returns
  have hts : ∀ w ∈ gw, w.before args s = true := fun w h => atoms_spec (ws := w_Ln_thing) B.pre w (List.mem_cons_of_mem _ h)
  have hown : s.vm.findClass RX2 = some m.cls := findClass_of_methodNamed B.named
  have hlocks := B.notSynchronized
  subst hH
  refine q_w (R := rm_Ln_thing) (fun Q hQ => ?_)
  refine en_w (av := [.ref h_ln, .int p1]) hav (Nat.le_of_ble_eq_true rfl) (fun ls hl => ?_)
  have hl : lv_has ls 3 [(0, .ref h_ln), (1, .int p1)] := hl
  unfold f_Ln_thing at hf
  refine lv_iload_n hx hb d_Ln_thing_0 rfl (lv_at hl 1 rfl) ?_
  by_cases c5 : p1 = 0
  · refine lv_tableIn (tgt := 28) (off := 27) hx hb d_Ln_thing_1 (by rw [c5]; decide) (by rw [c5]; decide) (by rw [c5]; decide) (by decide) ?_
    have hf := op_t hf c5
    refine lv_aload_n hx hb d_Ln_thing_28 rfl (lv_at hl 0 rfl) ?_
    refine va_get (D := (dC, dI)) (ci := 2) (v := .int (ln.1 0)) (C := RX2) (T := TX2) (N := 9) hx hb hts in_X2 hown hK hP 0 rfl rfl 0 (by decide) (hts _ kF_2_15) (fun _ h9 => h9) rfl d_Ln_thing_29 ?_
    obtain rfl := Option.some.inj hf
    subst hQ
    exact W.iret (v := ln.1 0) hx hb hr (fun t ht hW => ⟨rfl, ht⟩) (fun q h => by cases h) d_Ln_thing_32
  have hf := op_e hf c5
  by_cases c6 : p1 = 1
  · refine lv_tableIn (tgt := 33) (off := 32) hx hb d_Ln_thing_1 (by rw [c6]; decide) (by rw [c6]; decide) (by rw [c6]; decide) (by decide) ?_
    have hf := op_t hf c6
    refine lv_aload_n hx hb d_Ln_thing_33 rfl (lv_at hl 0 rfl) ?_
    refine va_get (D := (dC, dI)) (ci := 2) (v := .int (ln.1 1)) (C := RX2) (T := TX2) (N := 9) hx hb hts in_X2 hown hK hP 0 rfl rfl 2 (by decide) (hts _ kF_2_23) (fun _ h9 => h9) rfl d_Ln_thing_34 ?_
    obtain rfl := Option.some.inj hf
    subst hQ
    exact W.iret (v := ln.1 1) hx hb hr (fun t ht hW => ⟨rfl, ht⟩) (fun q h => by cases h) d_Ln_thing_37
  have hf := op_e hf c6
  by_cases c7 : p1 = 2
  · refine lv_tableIn (tgt := 38) (off := 37) hx hb d_Ln_thing_1 (by rw [c7]; decide) (by rw [c7]; decide) (by rw [c7]; decide) (by decide) ?_
    have hf := op_t hf c7
    refine lv_aload_n hx hb d_Ln_thing_38 rfl (lv_at hl 0 rfl) ?_
    refine va_get (D := (dC, dI)) (ci := 2) (v := .int (ln.1 2)) (C := RX2) (T := TX2) (N := 9) hx hb hts in_X2 hown hK hP 0 rfl rfl 3 (by decide) (hts _ kF_2_26) (fun _ h9 => h9) rfl d_Ln_thing_39 ?_
    obtain rfl := Option.some.inj hf
    subst hQ
    exact W.iret (v := ln.1 2) hx hb hr (fun t ht hW => ⟨rfl, ht⟩) (fun q h => by cases h) d_Ln_thing_42
  have hf := op_e hf c7
  have nc5 := lv_neT c5 (a := 0) (by decide)
  have nc6 := lv_neT c6 (a := 1) (by decide)
  have nc7 := lv_neT c7 (a := 2) (by decide)
  refine lv_tableOut (tgt := 43) hx hb d_Ln_thing_1 (by omega) (by decide) ?_
  refine lv_iload_n hx hb d_Ln_thing_43 rfl (lv_at hl 1 rfl) ?_
  refine lv_iconst (v := 3) hx hb d_Ln_thing_44 (by decide) ?_
  refine lv_isub hx hb d_Ln_thing_45 ?_
  obtain ⟨v1, hv1, hf⟩ := op_b hf
  refine rw_i (y := v1) (Option.some.inj hv1) ?_
  refine lv_istore_n (lv' := [(2, .int v1), (0, .ref h_ln), (1, .int p1)]) hx hb d_Ln_thing_46 rfl hl (by decide) rfl (fun ls hl => ?_)
  refine lv_iload_n hx hb d_Ln_thing_47 rfl (lv_at hl 0 rfl) ?_
  refine lv_if_lt (tgt := 69) hx hb d_Ln_thing_48 (by decide) (fun c2 => ?_) (fun c2 => ?_)
  · have hf := op_t hf c2
    refine lv_iconst (v := 0) hx hb d_Ln_thing_69 (by decide) ?_
    obtain rfl := Option.some.inj hf
    subst hQ
    exact W.iret (v := 0) hx hb hr (fun t ht hW => ⟨rfl, ht⟩) (fun q h => by cases h) d_Ln_thing_70
  · have hf := op_e hf c2
    refine lv_iload_n hx hb d_Ln_thing_51 rfl (lv_at hl 0 rfl) ?_
    refine lv_aload_n hx hb d_Ln_thing_52 rfl (lv_at hl 1 rfl) ?_
    refine va_get (D := (dC, dI)) (ci := 2) (v := .ref (ad_ln 0)) (C := RX2) (T := TX2) (N := 9) hx hb hts in_X2 hown hK hP 0 rfl rfl 4 (by decide) (hts _ kF_2_9) (fun _ h9 => h9) rfl d_Ln_thing_53 ?_
    refine va_alen hx hb hK hP 1 0 rfl rfl (v := Int32.ofNat 6) rfl d_Ln_thing_56 ?_
    refine lv_icmp_ge (tgt := 69) hx hb d_Ln_thing_57 (by decide) (fun c3 => ?_) (fun c3 => ?_)
    · have hf := op_t hf c3
      refine lv_iconst (v := 0) hx hb d_Ln_thing_69 (by decide) ?_
      obtain rfl := Option.some.inj hf
      subst hQ
      exact W.iret (v := 0) hx hb hr (fun t ht hW => ⟨rfl, ht⟩) (fun q h => by cases h) d_Ln_thing_70
    · have hf := op_e hf c3
      refine lv_aload_n hx hb d_Ln_thing_60 rfl (lv_at hl 1 rfl) ?_
      refine va_get (D := (dC, dI)) (ci := 2) (v := .ref (ad_ln 0)) (C := RX2) (T := TX2) (N := 9) hx hb hts in_X2 hown hK hP 0 rfl rfl 4 (by decide) (hts _ kF_2_9) (fun _ h9 => h9) rfl d_Ln_thing_61 ?_
      refine lv_iload_n hx hb d_Ln_thing_64 rfl (lv_at hl 0 rfl) ?_
      obtain ⟨hi4, hf⟩ := op_if hf
      refine va_iald (f := ln.2.1 0) hx hb hK hP 1 0 rfl rfl (ix_in hi4) d_Ln_thing_65 ?_
      refine lv_goto (tgt := 70) hx hb d_Ln_thing_66 (by decide) ?_
      obtain rfl := Option.some.inj hf
      subst hQ
      exact W.iret (v := (ln.2.1 0) v1.toNatClampNeg) hx hb hr (fun t ht hW => ⟨rfl, ht⟩) (fun q h => by cases h) d_Ln_thing_70
def f_Ln_signOfTag (ln : MS) (sh_nT : Nat) (sh : MS) (p1 : Int32) : Option (Int32) := (some ((ln.1 1) / 10) : Option Int32).bind fun v1 => ((if v1 ≤ 0 then some (2) else some (3)) : Option (Int32)).bind fun q3 => (if 0 < p1 then (if p1 = 1 then some 120 else (if q3 ≤ p1 then (if p1 = q3 then some (48 + ((ln.1 1) - (ln.1 1) / 10 * 10)) else (if p1 = (q3 + 1) then some 58 else (some ((p1 - q3) - 2) : Option Int32).bind fun v9 => (if (Int32.ofNat sh_nT) ≤ v9 then some (-1) else if ix v9 sh_nT then some ((sh.2.1 0) v9.toNatClampNeg) else none))) else some (48 + v1))) else (if 0 ≤ p1 then some (48 + (ln.1 2)) else some (-1)))
def rm_Ln_signOfTag : Room := { frames := 0, cells := 0, slots := 0, locals := 0 }
set_option maxHeartbeats 4000000 in
set_option maxRecDepth 100000 in
theorem m_Ln_signOfTag (l : Launch) (dC : Nat → ClassId) (dI : Nat → Nat → Nat) (tC : Nat → ClassId) (h_ln : Nat) (ad_ln : Nat → Nat) (ln : MS) (ad_sh : Nat → Nat) (sh_nT : Nat) (sh : MS) (p1 : Int32) (R : Int32) (H : Heap) (hP : va_P (dC, dI) vwCl (w_Ln_ h_ln ad_ln tC ln ++ w_Sh_ (ad_ln 100) ad_sh tC sh_nT sh) H) (hf : f_Ln_signOfTag ln sh_nT sh p1 = some R) : Met l y_Ln_signOfTag w_Ln_signOfTag rm_Ln_signOfTag (roP (dC, dI) tC H [.ref h_ln, .int p1]) (roQ H (some (.int R))) 0 0 (fun _ => False) := by
  refine Met.ofW (cc := c_Ln_signOfTag) (maxL := 5) (ret := (some (.int))) (by decide) rfl ?_
  intro p e s m args below meth c s₁ B hml hv
  obtain ⟨hav, hH, hK⟩ := hv
  have hx := B.exec
  have hb := B.bytes
  have hr := B.returns
  have hts : ∀ w ∈ gw, w.before args s = true := fun w h => atoms_spec (ws := w_Ln_signOfTag) B.pre w (List.mem_cons_of_mem _ h)
  have hown : s.vm.findClass RX2 = some m.cls := findClass_of_methodNamed B.named
  have hlocks := B.notSynchronized
  subst hH
  refine q_w (R := rm_Ln_signOfTag) (fun Q hQ => ?_)
  refine en_w (av := [.ref h_ln, .int p1]) hav (Nat.le_of_ble_eq_true rfl) (fun ls hl => ?_)
  have hl : lv_has ls 5 [(0, .ref h_ln), (1, .int p1)] := hl
  unfold f_Ln_signOfTag at hf
  refine lv_aload_n hx hb d_Ln_signOfTag_0 rfl (lv_at hl 0 rfl) ?_
  refine va_get (D := (dC, dI)) (ci := 2) (v := .int (ln.1 1)) (C := RX2) (T := TX2) (N := 9) hx hb hts in_X2 hown hK hP 0 rfl rfl 2 (by decide) (hts _ kF_2_23) (fun _ h9 => h9) rfl d_Ln_signOfTag_1 ?_
  refine lv_bipush (v := 10) hx hb d_Ln_signOfTag_4 (by decide) ?_
  refine lv_idiv hx hb d_Ln_signOfTag_6 (by decide) ?_
  obtain ⟨v1, hv1, hf⟩ := op_b hf
  refine rw_i (y := v1) (Option.some.inj hv1) ?_
  refine lv_istore_n (lv' := [(2, .int v1), (0, .ref h_ln), (1, .int p1)]) hx hb d_Ln_signOfTag_7 rfl hl (by decide) rfl (fun ls hl => ?_)
  refine lv_iload_n hx hb d_Ln_signOfTag_8 rfl (lv_at hl 0 rfl) ?_
  obtain ⟨q3, hq3, hf⟩ := op_b hf
  have J_9 : ∀ ls : Array Slot, lv_has ls 5 [(2, .int v1), (0, .ref h_ln), (1, .int p1)] → W p l e rm_Ln_signOfTag s m args below meth c s.heap [] 0 0 Q (F0 m 17 ls [.int q3]) := by
    intro ls hl
    refine lv_istore_n (lv' := [(3, .int q3), (2, .int v1), (0, .ref h_ln), (1, .int p1)]) hx hb d_Ln_signOfTag_17 rfl hl (by decide) rfl (fun ls hl => ?_)
    refine lv_iload_n hx hb d_Ln_signOfTag_18 rfl (lv_at hl 3 rfl) ?_
    refine lv_if_gt (tgt := 38) hx hb d_Ln_signOfTag_19 (by decide) (fun c4 => ?_) (fun c4 => ?_)
    · have hf := op_t hf c4
      refine lv_iload_n hx hb d_Ln_signOfTag_38 rfl (lv_at hl 3 rfl) ?_
      refine lv_iconst (v := 1) hx hb d_Ln_signOfTag_39 (by decide) ?_
      refine lv_icmp_ne (tgt := 46) hx hb d_Ln_signOfTag_40 (by decide) (fun c5 => ?_) (fun c5 => ?_)
      · have hf := op_e hf c5
        refine lv_iload_n hx hb d_Ln_signOfTag_46 rfl (lv_at hl 3 rfl) ?_
        refine lv_iload_n hx hb d_Ln_signOfTag_47 rfl (lv_at hl 0 rfl) ?_
        refine lv_icmp_ge (tgt := 56) hx hb d_Ln_signOfTag_48 (by decide) (fun c6 => ?_) (fun c6 => ?_)
        · have hf := op_t hf c6
          refine lv_iload_n hx hb d_Ln_signOfTag_56 rfl (lv_at hl 3 rfl) ?_
          refine lv_iload_n hx hb d_Ln_signOfTag_57 rfl (lv_at hl 0 rfl) ?_
          refine lv_icmp_ne (tgt := 72) hx hb d_Ln_signOfTag_58 (by decide) (fun c7 => ?_) (fun c7 => ?_)
          · have hf := op_e hf c7
            refine lv_iload_n hx hb d_Ln_signOfTag_72 rfl (lv_at hl 3 rfl) ?_
            refine lv_iload_n hx hb d_Ln_signOfTag_73 rfl (lv_at hl 0 rfl) ?_
            refine lv_iconst (v := 1) hx hb d_Ln_signOfTag_74 (by decide) ?_
            refine lv_iadd hx hb d_Ln_signOfTag_75 ?_
            refine lv_icmp_ne (tgt := 82) hx hb d_Ln_signOfTag_76 (by decide) (fun c8 => ?_) (fun c8 => ?_)
            · have hf := op_e hf c8
              refine lv_iload_n hx hb d_Ln_signOfTag_82 rfl (lv_at hl 3 rfl) ?_
              refine lv_iload_n hx hb d_Ln_signOfTag_83 rfl (lv_at hl 0 rfl) ?_
              refine lv_isub hx hb d_Ln_signOfTag_84 ?_
              refine lv_iconst (v := 2) hx hb d_Ln_signOfTag_85 (by decide) ?_
              refine lv_isub hx hb d_Ln_signOfTag_86 ?_
              obtain ⟨v9, hv9, hf⟩ := op_b hf
              refine rw_i (y := v9) (Option.some.inj hv9) ?_
              refine lv_istore (lv' := [(4, .int v9), (3, .int q3), (2, .int v1), (0, .ref h_ln), (1, .int p1)]) hx hb d_Ln_signOfTag_87 hl (by decide) rfl (fun ls hl => ?_)
              refine lv_iload hx hb d_Ln_signOfTag_89 (lv_at hl 0 rfl) ?_
              refine lv_aload_n hx hb d_Ln_signOfTag_91 rfl (lv_at hl 3 rfl) ?_
              refine va_get (D := (dC, dI)) (ci := 2) (v := .ref (ad_ln 100)) (C := RX2) (T := TX2) (N := 9) hx hb hts in_X2 hown hK hP 0 rfl rfl 1 (by decide) (hts _ kF_2_19) (fun _ h9 => h9) rfl d_Ln_signOfTag_92 ?_
              refine va_get (D := (dC, dI)) (ci := 4) (v := .ref (ad_sh 0)) (C := RX4) (T := TX4) (N := 3) hx hb hts in_X4 hown hK hP 2 rfl rfl 0 (by decide) (hts _ kF_2_33) (fun _ h9 => h9) rfl d_Ln_signOfTag_95 ?_
              refine va_alen hx hb hK hP 3 2 rfl rfl (v := Int32.ofNat sh_nT) rfl d_Ln_signOfTag_98 ?_
              refine lv_icmp_ge (tgt := 115) hx hb d_Ln_signOfTag_99 (by decide) (fun c10 => ?_) (fun c10 => ?_)
              · have hf := op_t hf c10
                refine lv_iconst (v := (-1)) hx hb d_Ln_signOfTag_115 (by decide) ?_
                obtain rfl := Option.some.inj hf
                subst hQ
                exact W.iret (v := (-1)) hx hb hr (fun t ht hW => ⟨rfl, ht⟩) (fun q h => by cases h) d_Ln_signOfTag_116
              · have hf := op_e hf c10
                refine lv_aload_n hx hb d_Ln_signOfTag_102 rfl (lv_at hl 3 rfl) ?_
                refine va_get (D := (dC, dI)) (ci := 2) (v := .ref (ad_ln 100)) (C := RX2) (T := TX2) (N := 9) hx hb hts in_X2 hown hK hP 0 rfl rfl 1 (by decide) (hts _ kF_2_19) (fun _ h9 => h9) rfl d_Ln_signOfTag_103 ?_
                refine va_get (D := (dC, dI)) (ci := 4) (v := .ref (ad_sh 0)) (C := RX4) (T := TX4) (N := 3) hx hb hts in_X4 hown hK hP 2 rfl rfl 0 (by decide) (hts _ kF_2_33) (fun _ h9 => h9) rfl d_Ln_signOfTag_106 ?_
                refine lv_iload hx hb d_Ln_signOfTag_109 (lv_at hl 0 rfl) ?_
                obtain ⟨hi11, hf⟩ := op_if hf
                refine va_cald (f := sh.2.1 0) hx hb hK hP 3 2 rfl rfl (ix_in hi11) d_Ln_signOfTag_111 ?_
                refine lv_goto (tgt := 116) hx hb d_Ln_signOfTag_112 (by decide) ?_
                obtain rfl := Option.some.inj hf
                subst hQ
                exact W.iret (v := (sh.2.1 0) v9.toNatClampNeg) hx hb hr (fun t ht hW => ⟨rfl, ht⟩) (fun q h => by cases h) d_Ln_signOfTag_116
            · have hf := op_t hf c8
              refine lv_bipush (v := 58) hx hb d_Ln_signOfTag_79 (by decide) ?_
              obtain rfl := Option.some.inj hf
              subst hQ
              exact W.iret (v := 58) hx hb hr (fun t ht hW => ⟨rfl, ht⟩) (fun q h => by cases h) d_Ln_signOfTag_81
          · have hf := op_t hf c7
            refine lv_bipush (v := 48) hx hb d_Ln_signOfTag_61 (by decide) ?_
            refine lv_aload_n hx hb d_Ln_signOfTag_63 rfl (lv_at hl 2 rfl) ?_
            refine va_get (D := (dC, dI)) (ci := 2) (v := .int (ln.1 1)) (C := RX2) (T := TX2) (N := 9) hx hb hts in_X2 hown hK hP 0 rfl rfl 2 (by decide) (hts _ kF_2_23) (fun _ h9 => h9) rfl d_Ln_signOfTag_64 ?_
            refine lv_bipush (v := 10) hx hb d_Ln_signOfTag_67 (by decide) ?_
            refine lv_irem hx hb d_Ln_signOfTag_69 (by decide) ?_
            refine lv_iadd hx hb d_Ln_signOfTag_70 ?_
            obtain rfl := Option.some.inj hf
            subst hQ
            exact W.iret (v := 48 + ((ln.1 1) - (ln.1 1) / 10 * 10)) hx hb hr (fun t ht hW => ⟨rfl, ht⟩) (fun q h => by cases h) d_Ln_signOfTag_71
        · have hf := op_e hf c6
          refine lv_bipush (v := 48) hx hb d_Ln_signOfTag_51 (by decide) ?_
          refine lv_iload_n hx hb d_Ln_signOfTag_53 rfl (lv_at hl 1 rfl) ?_
          refine lv_iadd hx hb d_Ln_signOfTag_54 ?_
          obtain rfl := Option.some.inj hf
          subst hQ
          exact W.iret (v := 48 + v1) hx hb hr (fun t ht hW => ⟨rfl, ht⟩) (fun q h => by cases h) d_Ln_signOfTag_55
      · have hf := op_t hf c5
        refine lv_bipush (v := 120) hx hb d_Ln_signOfTag_43 (by decide) ?_
        obtain rfl := Option.some.inj hf
        subst hQ
        exact W.iret (v := 120) hx hb hr (fun t ht hW => ⟨rfl, ht⟩) (fun q h => by cases h) d_Ln_signOfTag_45
    · have hf := op_e hf c4
      refine lv_iload_n hx hb d_Ln_signOfTag_22 rfl (lv_at hl 3 rfl) ?_
      refine lv_if_ge (tgt := 30) hx hb d_Ln_signOfTag_23 (by decide) (fun c12 => ?_) (fun c12 => ?_)
      · have hf := op_t hf c12
        refine lv_bipush (v := 48) hx hb d_Ln_signOfTag_30 (by decide) ?_
        refine lv_aload_n hx hb d_Ln_signOfTag_32 rfl (lv_at hl 2 rfl) ?_
        refine va_get (D := (dC, dI)) (ci := 2) (v := .int (ln.1 2)) (C := RX2) (T := TX2) (N := 9) hx hb hts in_X2 hown hK hP 0 rfl rfl 3 (by decide) (hts _ kF_2_26) (fun _ h9 => h9) rfl d_Ln_signOfTag_33 ?_
        refine lv_iadd hx hb d_Ln_signOfTag_36 ?_
        obtain rfl := Option.some.inj hf
        subst hQ
        exact W.iret (v := 48 + (ln.1 2)) hx hb hr (fun t ht hW => ⟨rfl, ht⟩) (fun q h => by cases h) d_Ln_signOfTag_37
      · have hf := op_e hf c12
        refine lv_iconst (v := (-1)) hx hb d_Ln_signOfTag_26 (by decide) ?_
        refine lv_goto (tgt := 37) hx hb d_Ln_signOfTag_27 (by decide) ?_
        obtain rfl := Option.some.inj hf
        subst hQ
        exact W.iret (v := (-1)) hx hb hr (fun t ht hW => ⟨rfl, ht⟩) (fun q h => by cases h) d_Ln_signOfTag_37
  clear hf
  have hf := hq3
  clear hq3
  refine lv_if_le (tgt := 16) hx hb d_Ln_signOfTag_9 (by decide) (fun c2 => ?_) (fun c2 => ?_)
  · have hf := op_t hf c2
    refine lv_iconst (v := 2) hx hb d_Ln_signOfTag_16 (by decide) ?_
    obtain rfl := Option.some.inj hf
    exact J_9 _ (lv_sub hl [0, 1, 2] rfl)
  · have hf := op_e hf c2
    refine lv_iconst (v := 3) hx hb d_Ln_signOfTag_12 (by decide) ?_
    refine lv_goto (tgt := 17) hx hb d_Ln_signOfTag_13 (by decide) ?_
    obtain rfl := Option.some.inj hf
    exact J_9 _ (lv_sub hl [0, 1, 2] rfl)
def f_Sg_isLeg (p1 : Int32) (p2 : Int32) : Option (Int32) := (if 6 ≤ p2 then some 0 else (if p1 = (65 + p2) then some 1 else some 0))
def rm_Sg_isLeg : Room := { frames := 0, cells := 0, slots := 0, locals := 0 }
set_option maxHeartbeats 4000000 in
set_option maxRecDepth 100000 in
theorem m_Sg_isLeg (l : Launch) (dC : Nat → ClassId) (dI : Nat → Nat → Nat) (tC : Nat → ClassId) (p1 : Int32) (p2 : Int32) (R : Int32) (H : Heap) (hf : f_Sg_isLeg p1 p2 = some R) : Met l y_Sg_isLeg w_Sg_isLeg rm_Sg_isLeg (roP (dC, dI) tC H [.int p1, .int p2]) (roQ H (some (.int R))) 0 0 (fun _ => False) := by
  refine Met.ofW (cc := c_Sg_isLeg) (maxL := 2) (ret := (some (.boolean))) (by decide) rfl ?_
  intro p e s m args below meth c s₁ B hml hv
  obtain ⟨hav, hH, hK⟩ := hv
  have hx := B.exec
  have hb := B.bytes
  have hr := B.returns
  have hts : ∀ w ∈ gw, w.before args s = true := fun w h => atoms_spec (ws := w_Sg_isLeg) B.pre w (List.mem_cons_of_mem _ h)
  have hown : s.vm.findClass RX6 = some m.cls := findClass_of_methodNamed B.named
  have hlocks := B.notSynchronized
  subst hH
  refine q_w (R := rm_Sg_isLeg) (fun Q hQ => ?_)
  refine en_w (av := [.int p1, .int p2]) hav (Nat.le_of_ble_eq_true rfl) (fun ls hl => ?_)
  have hl : lv_has ls 2 [(0, .int p1), (1, .int p2)] := hl
  unfold f_Sg_isLeg at hf
  refine lv_iload_n hx hb d_Sg_isLeg_0 rfl (lv_at hl 1 rfl) ?_
  refine lv_bipush (v := 6) hx hb d_Sg_isLeg_1 (by decide) ?_
  refine lv_icmp_ge (tgt := 18) hx hb d_Sg_isLeg_3 (by decide) (fun c1 => ?_) (fun c1 => ?_)
  · have hf := op_t hf c1
    refine lv_iconst (v := 0) hx hb d_Sg_isLeg_18 (by decide) ?_
    obtain rfl := Option.some.inj hf
    subst hQ
    exact W.zret (v := 0) (ty := .boolean) hx hb hr (by decide) (fun t ht hW => ⟨rfl, ht⟩) (fun q h => by cases h) d_Sg_isLeg_19
  · have hf := op_e hf c1
    refine lv_iload_n hx hb d_Sg_isLeg_6 rfl (lv_at hl 0 rfl) ?_
    refine lv_bipush (v := 65) hx hb d_Sg_isLeg_7 (by decide) ?_
    refine lv_iload_n hx hb d_Sg_isLeg_9 rfl (lv_at hl 1 rfl) ?_
    refine lv_iadd hx hb d_Sg_isLeg_10 ?_
    refine lv_icmp_ne (tgt := 18) hx hb d_Sg_isLeg_11 (by decide) (fun c2 => ?_) (fun c2 => ?_)
    · have hf := op_e hf c2
      refine lv_iconst (v := 0) hx hb d_Sg_isLeg_18 (by decide) ?_
      obtain rfl := Option.some.inj hf
      subst hQ
      exact W.zret (v := 0) (ty := .boolean) hx hb hr (by decide) (fun t ht hW => ⟨rfl, ht⟩) (fun q h => by cases h) d_Sg_isLeg_19
    · have hf := op_t hf c2
      refine lv_iconst (v := 1) hx hb d_Sg_isLeg_14 (by decide) ?_
      refine lv_goto (tgt := 19) hx hb d_Sg_isLeg_15 (by decide) ?_
      obtain rfl := Option.some.inj hf
      subst hQ
      exact W.zret (v := 1) (ty := .boolean) hx hb hr (by decide) (fun t ht hW => ⟨rfl, ht⟩) (fun q h => by cases h) d_Sg_isLeg_19
def f_Sg_quartersOf (p1 : Int32) : Option (Int32) := (if p1 = 76 then some 1 else (if p1 = 82 then some 1 else (if p1 = 85 then some 2 else some 0)))
def rm_Sg_quartersOf : Room := { frames := 0, cells := 0, slots := 0, locals := 0 }
set_option maxHeartbeats 4000000 in
set_option maxRecDepth 100000 in
theorem m_Sg_quartersOf (l : Launch) (dC : Nat → ClassId) (dI : Nat → Nat → Nat) (tC : Nat → ClassId) (p1 : Int32) (R : Int32) (H : Heap) (hf : f_Sg_quartersOf p1 = some R) : Met l y_Sg_quartersOf w_Sg_quartersOf rm_Sg_quartersOf (roP (dC, dI) tC H [.int p1]) (roQ H (some (.int R))) 0 0 (fun _ => False) := by
  refine Met.ofW (cc := c_Sg_quartersOf) (maxL := 1) (ret := (some (.int))) (by decide) rfl ?_
  intro p e s m args below meth c s₁ B hml hv
  obtain ⟨hav, hH, hK⟩ := hv
  have hx := B.exec
  have hb := B.bytes
  have hr := B.returns
  have hts : ∀ w ∈ gw, w.before args s = true := fun w h => atoms_spec (ws := w_Sg_quartersOf) B.pre w (List.mem_cons_of_mem _ h)
  have hown : s.vm.findClass RX6 = some m.cls := findClass_of_methodNamed B.named
  have hlocks := B.notSynchronized
  subst hH
  refine q_w (R := rm_Sg_quartersOf) (fun Q hQ => ?_)
  refine en_w (av := [.int p1]) hav (Nat.le_of_ble_eq_true rfl) (fun ls hl => ?_)
  have hl : lv_has ls 1 [(0, .int p1)] := hl
  unfold f_Sg_quartersOf at hf
  refine lv_iload_n hx hb d_Sg_quartersOf_0 rfl (lv_at hl 0 rfl) ?_
  by_cases c1 : p1 = 76
  · refine lv_lookup (tgt := 36) (off := 35) hx hb d_Sg_quartersOf_1 (by decide) (by rw [c1]; decide) (by decide) ?_
    have hf := op_t hf c1
    refine lv_iconst (v := 1) hx hb d_Sg_quartersOf_36 (by decide) ?_
    obtain rfl := Option.some.inj hf
    subst hQ
    exact W.iret (v := 1) hx hb hr (fun t ht hW => ⟨rfl, ht⟩) (fun q h => by cases h) d_Sg_quartersOf_37
  have hf := op_e hf c1
  by_cases c2 : p1 = 82
  · refine lv_lookup (tgt := 36) (off := 35) hx hb d_Sg_quartersOf_1 (by decide) (by rw [c2]; decide) (by decide) ?_
    have hf := op_t hf c2
    refine lv_iconst (v := 1) hx hb d_Sg_quartersOf_36 (by decide) ?_
    obtain rfl := Option.some.inj hf
    subst hQ
    exact W.iret (v := 1) hx hb hr (fun t ht hW => ⟨rfl, ht⟩) (fun q h => by cases h) d_Sg_quartersOf_37
  have hf := op_e hf c2
  by_cases c3 : p1 = 85
  · refine lv_lookup (tgt := 38) (off := 37) hx hb d_Sg_quartersOf_1 (by decide) (by rw [c3]; decide) (by decide) ?_
    have hf := op_t hf c3
    refine lv_iconst (v := 2) hx hb d_Sg_quartersOf_38 (by decide) ?_
    obtain rfl := Option.some.inj hf
    subst hQ
    exact W.iret (v := 2) hx hb hr (fun t ht hW => ⟨rfl, ht⟩) (fun q h => by cases h) d_Sg_quartersOf_39
  have hf := op_e hf c3
  refine lv_lookup (tgt := 40) (off := 39) hx hb d_Sg_quartersOf_1 (by decide) (by show Op.lookupswitch.offset [(76, 35), (82, 35), (85, 37)] 39 (p1).toInt = _; rw [lv_osw c1 (by decide), lv_osw c2 (by decide), lv_osw c3 (by decide)]; rfl) (by decide) ?_
  refine lv_iconst (v := 0) hx hb d_Sg_quartersOf_40 (by decide) ?_
  obtain rfl := Option.some.inj hf
  subst hQ
  exact W.iret (v := 0) hx hb hr (fun t ht hW => ⟨rfl, ht⟩) (fun q h => by cases h) d_Sg_quartersOf_41
def f_Sg_collect (sg : MS) (p1 : Int32) : Option (Int32 × MS) := (if p1 < 32 then some (0, sg) else (if 126 < p1 then some (0, sg) else (if (sg.1 0) < 40 then if ix (sg.1 0) 40 then (some (sA sg 0 (upd (sg.2.1 0) (sg.1 0).toNatClampNeg (vp_nar .char ((p1.toUInt32 % 65536).toInt32))))).bind fun sg5 => (some (sI sg5 0 ((sg5.1 0) + 1))).bind fun sg6 => some (1, sg6) else none else some (0, sg))))
def rm_Sg_collect : Room := { frames := 0, cells := 0, slots := 0, locals := 0 }
set_option maxHeartbeats 4000000 in
set_option maxRecDepth 100000 in
theorem m_Sg_collect (l : Launch) (dC : Nat → ClassId) (dI : Nat → Nat → Nat) (tC : Nat → ClassId) (h_sg : Nat) (ad_sg : Nat → Nat) (sg : MS) (p1 : Int32) (R : Int32 × MS) (hf : f_Sg_collect sg p1 = some R) (sz : Nat) : Met l y_Sg_collect w_Sg_collect rm_Sg_collect (wrP (dC, dI) tC (w_Sg_ h_sg ad_sg tC sg) sz [.ref h_sg, .int p1]) (wrQ (dC, dI) (w_Sg_ h_sg ad_sg tC sg) sz (fun r w => r = (some (.int R.1)) ∧ w = (w_Sg_ h_sg ad_sg tC R.2))) 0 0 (va_A (w_Sg_ h_sg ad_sg tC sg) sz) := by
  refine Met.ofW (cc := c_Sg_collect) (maxL := 2) (ret := (some (.boolean))) (by decide) rfl ?_
  intro p e s m args below meth c s₁ B hml hv
  obtain ⟨hav, hsz, hP, hK, hD0⟩ := hv
  have hx := B.exec
  have hb := B.bytes
  have hr := B.returns
  have hts : ∀ w ∈ gw, w.before args s = true := fun w h => atoms_spec (ws := w_Sg_collect) B.pre w (List.mem_cons_of_mem _ h)
  have hown : s.vm.findClass RX6 = some m.cls := findClass_of_methodNamed B.named
  have hlocks := B.notSynchronized
  subst hsz
  have hD := hD0.self (sz := s.heap.size)
  obtain ⟨A, hAe⟩ : ∃ z, z = va_A (w_Sg_ h_sg ad_sg tC sg) s.heap.size := ⟨_, rfl⟩
  rw [← hAe] at hD
  have hA : ∀ q : Nat, s.heap.size ≤ q → A q := fun q h => by rw [hAe]; exact Or.inr h
  have hS : va_S A s.heap s.heap [] := va_S.rf
  refine q_w (R := rm_Sg_collect) (fun Q hQ => ?_)
  refine en_w (av := [.ref h_sg, .int p1]) hav (Nat.le_of_ble_eq_true rfl) (fun ls hl => ?_)
  have hl : lv_has ls 2 [(0, .ref h_sg), (1, .int p1)] := hl
  unfold f_Sg_collect at hf
  refine lv_iload_n hx hb d_Sg_collect_0 rfl (lv_at hl 1 rfl) ?_
  refine lv_bipush (v := 32) hx hb d_Sg_collect_1 (by decide) ?_
  refine lv_icmp_lt (tgt := 21) hx hb d_Sg_collect_3 (by decide) (fun c1 => ?_) (fun c1 => ?_)
  · have hf := op_t hf c1
    refine lv_iconst (v := 0) hx hb d_Sg_collect_21 (by decide) ?_
    obtain rfl := Option.some.inj hf
    subst hQ
    subst hAe
    exact W.zret (v := 0) (ty := .boolean) hx hb hr (by decide) (fun t ht hW => ⟨⟨_, _, rfl, ⟨rfl, rfl⟩, by rw [ht]; exact hP, hD⟩, hS.F ht⟩) hS.2.2 d_Sg_collect_22
  · have hf := op_e hf c1
    refine lv_iload_n hx hb d_Sg_collect_6 rfl (lv_at hl 1 rfl) ?_
    refine lv_bipush (v := 126) hx hb d_Sg_collect_7 (by decide) ?_
    refine lv_icmp_gt (tgt := 21) hx hb d_Sg_collect_9 (by decide) (fun c2 => ?_) (fun c2 => ?_)
    · have hf := op_t hf c2
      refine lv_iconst (v := 0) hx hb d_Sg_collect_21 (by decide) ?_
      obtain rfl := Option.some.inj hf
      subst hQ
      subst hAe
      exact W.zret (v := 0) (ty := .boolean) hx hb hr (by decide) (fun t ht hW => ⟨⟨_, _, rfl, ⟨rfl, rfl⟩, by rw [ht]; exact hP, hD⟩, hS.F ht⟩) hS.2.2 d_Sg_collect_22
    · have hf := op_e hf c2
      refine lv_aload_n hx hb d_Sg_collect_12 rfl (lv_at hl 0 rfl) ?_
      refine va_get (D := (dC, dI)) (ci := 6) (v := .int (sg.1 0)) (C := RX6) (T := TX6) (N := 2) hx hb hts in_X6 hown hK hP 0 rfl rfl 1 (by decide) (hts _ kF_6_15) (fun _ h9 => h9) rfl d_Sg_collect_13 ?_
      refine lv_bipush (v := 40) hx hb d_Sg_collect_16 (by decide) ?_
      refine lv_icmp_lt (tgt := 23) hx hb d_Sg_collect_18 (by decide) (fun c3 => ?_) (fun c3 => ?_)
      · have hf := op_t hf c3
        refine lv_aload_n hx hb d_Sg_collect_23 rfl (lv_at hl 0 rfl) ?_
        refine va_get (D := (dC, dI)) (ci := 6) (v := .ref (ad_sg 0)) (C := RX6) (T := TX6) (N := 2) hx hb hts in_X6 hown hK hP 0 rfl rfl 0 (by decide) (hts _ kF_6_9) (fun _ h9 => h9) rfl d_Sg_collect_24 ?_
        refine lv_aload_n hx hb d_Sg_collect_27 rfl (lv_at hl 0 rfl) ?_
        refine va_get (D := (dC, dI)) (ci := 6) (v := .int (sg.1 0)) (C := RX6) (T := TX6) (N := 2) hx hb hts in_X6 hown hK hP 0 rfl rfl 1 (by decide) (hts _ kF_6_15) (fun _ h9 => h9) rfl d_Sg_collect_28 ?_
        refine lv_iload_n hx hb d_Sg_collect_31 rfl (lv_at hl 1 rfl) ?_
        refine lv_i2c (v := (p1.toUInt32 % 65536).toInt32) hx hb d_Sg_collect_32 rfl ?_
        obtain ⟨hi4, hf⟩ := op_if hf
        refine va_cast (f := sg.2.1 0) hx hb hK hP hD hS 1 2 rfl rfl (ix_in hi4) d_Sg_collect_33 (fun H locs hP hD hS => ?_)
        rw [wu_Sg_a0] at hP hD
        obtain ⟨sg5, hsg5, hf⟩ := op_b hf
        have hP : va_P (dC, dI) vwCl (w_Sg_ h_sg ad_sg tC sg5) H := by rw [← Option.some.inj hsg5]; exact hP
        have hD : va_D A (w_Sg_ h_sg ad_sg tC sg5) := by rw [← Option.some.inj hsg5]; exact hD
        refine lv_aload_n hx hb d_Sg_collect_34 rfl (lv_at hl 0 rfl) ?_
        refine lv_dup hx hb d_Sg_collect_35 rfl ?_
        refine va_get (D := (dC, dI)) (ci := 6) (v := .int (sg5.1 0)) (C := RX6) (T := TX6) (N := 2) hx hb hts in_X6 hown hK hP 0 rfl rfl 1 (by decide) (hts _ kF_6_15) (fun _ h9 => h9) rfl d_Sg_collect_36 ?_
        refine lv_iconst (v := 1) hx hb d_Sg_collect_39 (by decide) ?_
        refine lv_iadd hx hb d_Sg_collect_40 ?_
        refine va_put (D := (dC, dI)) (ci := 6) (v := .int ((sg5.1 0) + 1)) (ty := .int) (C := RX6) (T := TX6) (N := 2) hx hb hts in_X6 tyX6 tyX6_ok nmX6 hown hK hP hD hS 0 (fs := [.ref (ad_sg 0), .int (sg5.1 0)]) rfl rfl 1 (by decide) (hts _ kF_6_15) (fun _ h9 => h9) rfl (by decide +kernel) (rfl) (rfl) (Nat.le_of_ble_eq_true rfl) d_Sg_collect_41 (fun H locs hP hD hS => ?_)
        rw [wu_Sg_s0] at hP hD
        obtain ⟨sg6, hsg6, hf⟩ := op_b hf
        have hP : va_P (dC, dI) vwCl (w_Sg_ h_sg ad_sg tC sg6) H := by rw [← Option.some.inj hsg6]; exact hP
        have hD : va_D A (w_Sg_ h_sg ad_sg tC sg6) := by rw [← Option.some.inj hsg6]; exact hD
        refine lv_iconst (v := 1) hx hb d_Sg_collect_44 (by decide) ?_
        obtain rfl := Option.some.inj hf
        subst hQ
        subst hAe
        exact W.zret (v := 1) (ty := .boolean) hx hb hr (by decide) (fun t ht hW => ⟨⟨_, _, rfl, ⟨rfl, rfl⟩, by rw [ht]; exact hP, hD⟩, hS.F ht⟩) hS.2.2 d_Sg_collect_45
      · have hf := op_e hf c3
        refine lv_iconst (v := 0) hx hb d_Sg_collect_21 (by decide) ?_
        obtain rfl := Option.some.inj hf
        subst hQ
        subst hAe
        exact W.zret (v := 0) (ty := .boolean) hx hb hr (by decide) (fun t ht hW => ⟨⟨_, _, rfl, ⟨rfl, rfl⟩, by rw [ht]; exact hP, hD⟩, hS.F ht⟩) hS.2.2 d_Sg_collect_22
def l_Sg_firstWrong_2 : Nat → Int32 → MS → Option (Int32)
  | 0, _, _ => none
  | n + 1, x1, sg => (if (sg.1 0) ≤ x1 then (if ((sg.1 0) - (sg.1 0) / 2 * 2) = 0 then some (sg.1 0) else some (-1)) else ((if (x1 - x1 / 2 * 2) = 0 then if ix x1 40 then (f_Sg_isLeg ((sg.2.1 0) x1.toNatClampNeg) (x1 / 2)).bind fun q6 => some (q6) else none else if ix x1 40 then (f_Sg_quartersOf ((sg.2.1 0) x1.toNatClampNeg)).bind fun q8 => (if q8 ≤ 0 then some (0) else some (1)) else none) : Option (Int32)).bind fun q4 => (if q4 = 0 then some x1 else l_Sg_firstWrong_2 n (x1 + 1) sg))
def f_Sg_firstWrong (sg : MS) : Option (Int32) := l_Sg_firstWrong_2 fu 0 sg
def rm_Sg_firstWrong : Room := { frames := 1, cells := 0, slots := 0, locals := 21 }
set_option maxHeartbeats 4000000 in
set_option maxRecDepth 100000 in
theorem m_Sg_firstWrong (l : Launch) (dC : Nat → ClassId) (dI : Nat → Nat → Nat) (tC : Nat → ClassId) (h_sg : Nat) (ad_sg : Nat → Nat) (sg : MS) (R : Int32) (H : Heap) (hP : va_P (dC, dI) vwCl (w_Sg_ h_sg ad_sg tC sg) H) (hf : f_Sg_firstWrong sg = some R) : Met l y_Sg_firstWrong w_Sg_firstWrong rm_Sg_firstWrong (roP (dC, dI) tC H [.ref h_sg]) (roQ H (some (.int R))) 0 0 (fun _ => False) := by
  refine Met.ofW (cc := c_Sg_firstWrong) (maxL := 3) (ret := (some (.int))) (by decide) rfl ?_
  intro p e s m args below meth c s₁ B hml hv
  obtain ⟨hav, hH, hK⟩ := hv
  have hx := B.exec
  have hb := B.bytes
  have hr := B.returns
  have hts : ∀ w ∈ gw, w.before args s = true := fun w h => atoms_spec (ws := w_Sg_firstWrong) B.pre w (List.mem_cons_of_mem _ h)
  have hown : s.vm.findClass RX6 = some m.cls := findClass_of_methodNamed B.named
  have hlocks := B.notSynchronized
  subst hH
  refine q_w (R := rm_Sg_firstWrong) (fun Q hQ => ?_)
  refine en_w (av := [.ref h_sg]) hav (Nat.le_of_ble_eq_true rfl) (fun ls hl => ?_)
  have hl : lv_has ls 3 [(0, .ref h_sg)] := hl
  unfold f_Sg_firstWrong at hf
  refine lv_iconst (v := 0) hx hb d_Sg_firstWrong_0 (by decide) ?_
  refine lv_istore_n (lv' := [(1, .int 0), (0, .ref h_sg)]) hx hb d_Sg_firstWrong_1 rfl hl (by decide) rfl (fun ls hl => ?_)
  have lp_2 : ∀ (n : Nat) (x1 : Int32), l_Sg_firstWrong_2 n x1 sg = some R → ∀ ls : Array Slot, lv_has ls 3 [(1, .int x1), (0, .ref h_sg)] → W p l e rm_Sg_firstWrong s m args below meth c s.heap [] 0 0 Q (F0 m 2 ls []) := by
    intro n
    induction n with
    | zero => intro x1 hf; cases hf
    | succ n ih_2 =>
      intro x1 hf ls hl
      rw [l_Sg_firstWrong_2] at hf
      refine lv_iload_n hx hb d_Sg_firstWrong_2 rfl (lv_at hl 0 rfl) ?_
      refine lv_aload_n hx hb d_Sg_firstWrong_3 rfl (lv_at hl 1 rfl) ?_
      refine va_get (D := (dC, dI)) (ci := 6) (v := .int (sg.1 0)) (C := RX6) (T := TX6) (N := 2) hx hb hts in_X6 hown hK hP 0 rfl rfl 1 (by decide) (hts _ kF_6_15) (fun _ h9 => h9) rfl d_Sg_firstWrong_4 ?_
      refine lv_icmp_ge (tgt := 61) hx hb d_Sg_firstWrong_7 (by decide) (fun c1 => ?_) (fun c1 => ?_)
      · have hf := op_t hf c1
        refine lv_aload_n hx hb d_Sg_firstWrong_61 rfl (lv_at hl 1 rfl) ?_
        refine va_get (D := (dC, dI)) (ci := 6) (v := .int (sg.1 0)) (C := RX6) (T := TX6) (N := 2) hx hb hts in_X6 hown hK hP 0 rfl rfl 1 (by decide) (hts _ kF_6_15) (fun _ h9 => h9) rfl d_Sg_firstWrong_62 ?_
        refine lv_iconst (v := 2) hx hb d_Sg_firstWrong_65 (by decide) ?_
        refine lv_irem hx hb d_Sg_firstWrong_66 (by decide) ?_
        refine lv_if_ne (tgt := 77) hx hb d_Sg_firstWrong_67 (by decide) (fun c2 => ?_) (fun c2 => ?_)
        · have hf := op_e hf c2
          refine lv_iconst (v := (-1)) hx hb d_Sg_firstWrong_77 (by decide) ?_
          obtain rfl := Option.some.inj hf
          subst hQ
          exact W.iret (v := (-1)) hx hb hr (fun t ht hW => ⟨rfl, ht⟩) (fun q h => by cases h) d_Sg_firstWrong_78
        · have hf := op_t hf c2
          refine lv_aload_n hx hb d_Sg_firstWrong_70 rfl (lv_at hl 1 rfl) ?_
          refine va_get (D := (dC, dI)) (ci := 6) (v := .int (sg.1 0)) (C := RX6) (T := TX6) (N := 2) hx hb hts in_X6 hown hK hP 0 rfl rfl 1 (by decide) (hts _ kF_6_15) (fun _ h9 => h9) rfl d_Sg_firstWrong_71 ?_
          refine lv_goto (tgt := 78) hx hb d_Sg_firstWrong_74 (by decide) ?_
          obtain rfl := Option.some.inj hf
          subst hQ
          exact W.iret (v := sg.1 0) hx hb hr (fun t ht hW => ⟨rfl, ht⟩) (fun q h => by cases h) d_Sg_firstWrong_78
      · have hf := op_e hf c1
        refine lv_iload_n hx hb d_Sg_firstWrong_10 rfl (lv_at hl 0 rfl) ?_
        refine lv_iconst (v := 2) hx hb d_Sg_firstWrong_11 (by decide) ?_
        refine lv_irem hx hb d_Sg_firstWrong_12 (by decide) ?_
        obtain ⟨q4, hq4, hf⟩ := op_b hf
        have J_13 : ∀ ls : Array Slot, lv_has ls 3 [(1, .int x1), (0, .ref h_sg)] → W p l e rm_Sg_firstWrong s m args below meth c s.heap [] 0 0 Q (F0 m 48 ls [.int q4]) := by
          intro ls hl
          refine lv_istore_n (lv' := [(2, .int q4), (1, .int x1), (0, .ref h_sg)]) hx hb d_Sg_firstWrong_48 rfl hl (by decide) rfl (fun ls hl => ?_)
          refine lv_iload_n hx hb d_Sg_firstWrong_49 rfl (lv_at hl 0 rfl) ?_
          refine lv_if_ne (tgt := 55) hx hb d_Sg_firstWrong_50 (by decide) (fun c10 => ?_) (fun c10 => ?_)
          · have hf := op_e hf c10
            refine lv_iinc (v := x1 + 1) (lv' := [(1, .int (x1 + 1)), (2, .int q4), (0, .ref h_sg)]) hx hb d_Sg_firstWrong_55 hl (k := 1) rfl rfl (by decide) rfl (fun ls hl => ?_)
            refine lv_goto (tgt := 2) hx hb d_Sg_firstWrong_58 (by decide) ?_
            exact ih_2 (x1 + 1) hf _ (lv_sub hl [0, 2] rfl)
          · have hf := op_t hf c10
            refine lv_iload_n hx hb d_Sg_firstWrong_53 rfl (lv_at hl 1 rfl) ?_
            obtain rfl := Option.some.inj hf
            subst hQ
            exact W.iret (v := x1) hx hb hr (fun t ht hW => ⟨rfl, ht⟩) (fun q h => by cases h) d_Sg_firstWrong_54
        clear hf
        have hf := hq4
        clear hq4
        refine lv_if_ne (tgt := 31) hx hb d_Sg_firstWrong_13 (by decide) (fun c3 => ?_) (fun c3 => ?_)
        · have hf := op_e hf c3
          refine lv_aload_n hx hb d_Sg_firstWrong_31 rfl (lv_at hl 1 rfl) ?_
          refine va_get (D := (dC, dI)) (ci := 6) (v := .ref (ad_sg 0)) (C := RX6) (T := TX6) (N := 2) hx hb hts in_X6 hown hK hP 0 rfl rfl 0 (by decide) (hts _ kF_6_9) (fun _ h9 => h9) rfl d_Sg_firstWrong_32 ?_
          refine lv_iload_n hx hb d_Sg_firstWrong_35 rfl (lv_at hl 0 rfl) ?_
          obtain ⟨hi7, hf⟩ := op_if hf
          refine va_cald (f := sg.2.1 0) hx hb hK hP 1 2 rfl rfl (ix_in hi7) d_Sg_firstWrong_36 ?_
          obtain ⟨q8, hq8, hf⟩ := op_b hf
          refine ro_go rfl (va_runS (As := [.int ((sg.2.1 0) x1.toNatClampNeg)]) (rest := []) ⟨hx, hb, hml, hown, hts⟩ (m_Sg_quartersOf l dC dI tC ((sg.2.1 0) x1.toNatClampNeg) q8 _  hq8) (cwS 1 hts (gd_S kM_6_23 kS_Sg_quartersOf kZ_6 kC_Sg_quartersOf) rfl rfl rfl (by decide +kernel) ⟨(Nat.le_of_ble_eq_true rfl), (Nat.le_of_ble_eq_true rfl)⟩) ⟨ro_blind, ro_pre hK⟩ rfl rfl hl.1 rfl (lv_room (Nat.le_of_ble_eq_true rfl)) d_Sg_firstWrong_37 ⟨(Nat.le_of_ble_eq_true rfl), (Nat.le_of_ble_eq_true rfl)⟩) ?_
          refine W.eq (g2 := F0 m 40 ls [.int q8]) rfl ?_
          refine lv_if_le (tgt := 47) hx hb d_Sg_firstWrong_40 (by decide) (fun c9 => ?_) (fun c9 => ?_)
          · have hf := op_t hf c9
            refine lv_iconst (v := 0) hx hb d_Sg_firstWrong_47 (by decide) ?_
            obtain rfl := Option.some.inj hf
            exact J_13 _ (lv_sub hl [0, 1] rfl)
          · have hf := op_e hf c9
            refine lv_iconst (v := 1) hx hb d_Sg_firstWrong_43 (by decide) ?_
            refine lv_goto (tgt := 48) hx hb d_Sg_firstWrong_44 (by decide) ?_
            obtain rfl := Option.some.inj hf
            exact J_13 _ (lv_sub hl [0, 1] rfl)
        · have hf := op_t hf c3
          refine lv_aload_n hx hb d_Sg_firstWrong_16 rfl (lv_at hl 1 rfl) ?_
          refine va_get (D := (dC, dI)) (ci := 6) (v := .ref (ad_sg 0)) (C := RX6) (T := TX6) (N := 2) hx hb hts in_X6 hown hK hP 0 rfl rfl 0 (by decide) (hts _ kF_6_9) (fun _ h9 => h9) rfl d_Sg_firstWrong_17 ?_
          refine lv_iload_n hx hb d_Sg_firstWrong_20 rfl (lv_at hl 0 rfl) ?_
          obtain ⟨hi5, hf⟩ := op_if hf
          refine va_cald (f := sg.2.1 0) hx hb hK hP 1 2 rfl rfl (ix_in hi5) d_Sg_firstWrong_21 ?_
          refine lv_iload_n hx hb d_Sg_firstWrong_22 rfl (lv_at hl 0 rfl) ?_
          refine lv_iconst (v := 2) hx hb d_Sg_firstWrong_23 (by decide) ?_
          refine lv_idiv hx hb d_Sg_firstWrong_24 (by decide) ?_
          obtain ⟨q6, hq6, hf⟩ := op_b hf
          refine ro_go rfl (va_runS (As := [.int ((sg.2.1 0) x1.toNatClampNeg), .int (x1 / 2)]) (rest := []) ⟨hx, hb, hml, hown, hts⟩ (m_Sg_isLeg l dC dI tC ((sg.2.1 0) x1.toNatClampNeg) (x1 / 2) q6 _  hq6) (cwS 2 hts (gd_S kM_6_19 kS_Sg_isLeg kZ_6 kC_Sg_isLeg) rfl rfl rfl (by decide +kernel) ⟨(Nat.le_of_ble_eq_true rfl), (Nat.le_of_ble_eq_true rfl)⟩) ⟨ro_blind, ro_pre hK⟩ rfl rfl hl.1 rfl (lv_room (Nat.le_of_ble_eq_true rfl)) d_Sg_firstWrong_25 ⟨(Nat.le_of_ble_eq_true rfl), (Nat.le_of_ble_eq_true rfl)⟩) ?_
          refine W.eq (g2 := F0 m 28 ls [.int q6]) rfl ?_
          refine lv_goto (tgt := 48) hx hb d_Sg_firstWrong_28 (by decide) ?_
          obtain rfl := Option.some.inj hf
          exact J_13 _ (lv_sub hl [0, 1] rfl)
  exact lp_2 fu 0 hf _ (lv_sub hl [0, 1] rfl)
def f_Bc_isDiameter (p1 : Int32) : Option (Int32) := (if p1 < 4 then some 0 else (if 40 < p1 then some 0 else some 1))
def rm_Bc_isDiameter : Room := { frames := 0, cells := 0, slots := 0, locals := 0 }
set_option maxHeartbeats 4000000 in
set_option maxRecDepth 100000 in
theorem m_Bc_isDiameter (l : Launch) (dC : Nat → ClassId) (dI : Nat → Nat → Nat) (tC : Nat → ClassId) (p1 : Int32) (R : Int32) (H : Heap) (hf : f_Bc_isDiameter p1 = some R) : Met l y_Bc_isDiameter w_Bc_isDiameter rm_Bc_isDiameter (roP (dC, dI) tC H [.int p1]) (roQ H (some (.int R))) 0 0 (fun _ => False) := by
  refine Met.ofW (cc := c_Bc_isDiameter) (maxL := 1) (ret := (some (.boolean))) (by decide) rfl ?_
  intro p e s m args below meth c s₁ B hml hv
  obtain ⟨hav, hH, hK⟩ := hv
  have hx := B.exec
  have hb := B.bytes
  have hr := B.returns
  have hts : ∀ w ∈ gw, w.before args s = true := fun w h => atoms_spec (ws := w_Bc_isDiameter) B.pre w (List.mem_cons_of_mem _ h)
  have hown : s.vm.findClass RX8 = some m.cls := findClass_of_methodNamed B.named
  have hlocks := B.notSynchronized
  subst hH
  refine q_w (R := rm_Bc_isDiameter) (fun Q hQ => ?_)
  refine en_w (av := [.int p1]) hav (Nat.le_of_ble_eq_true rfl) (fun ls hl => ?_)
  have hl : lv_has ls 1 [(0, .int p1)] := hl
  unfold f_Bc_isDiameter at hf
  refine lv_iload_n hx hb d_Bc_isDiameter_0 rfl (lv_at hl 0 rfl) ?_
  refine lv_iconst (v := 4) hx hb d_Bc_isDiameter_1 (by decide) ?_
  refine lv_icmp_lt (tgt := 15) hx hb d_Bc_isDiameter_2 (by decide) (fun c1 => ?_) (fun c1 => ?_)
  · have hf := op_t hf c1
    refine lv_iconst (v := 0) hx hb d_Bc_isDiameter_15 (by decide) ?_
    obtain rfl := Option.some.inj hf
    subst hQ
    exact W.zret (v := 0) (ty := .boolean) hx hb hr (by decide) (fun t ht hW => ⟨rfl, ht⟩) (fun q h => by cases h) d_Bc_isDiameter_16
  · have hf := op_e hf c1
    refine lv_iload_n hx hb d_Bc_isDiameter_5 rfl (lv_at hl 0 rfl) ?_
    refine lv_bipush (v := 40) hx hb d_Bc_isDiameter_6 (by decide) ?_
    refine lv_icmp_gt (tgt := 15) hx hb d_Bc_isDiameter_8 (by decide) (fun c2 => ?_) (fun c2 => ?_)
    · have hf := op_t hf c2
      refine lv_iconst (v := 0) hx hb d_Bc_isDiameter_15 (by decide) ?_
      obtain rfl := Option.some.inj hf
      subst hQ
      exact W.zret (v := 0) (ty := .boolean) hx hb hr (by decide) (fun t ht hW => ⟨rfl, ht⟩) (fun q h => by cases h) d_Bc_isDiameter_16
    · have hf := op_e hf c2
      refine lv_iconst (v := 1) hx hb d_Bc_isDiameter_11 (by decide) ?_
      refine lv_goto (tgt := 16) hx hb d_Bc_isDiameter_12 (by decide) ?_
      obtain rfl := Option.some.inj hf
      subst hQ
      exact W.zret (v := 1) (ty := .boolean) hx hb hr (by decide) (fun t ht hW => ⟨rfl, ht⟩) (fun q h => by cases h) d_Bc_isDiameter_16
def f_Bc_isPlace (p1 : Int64) : Option (Int32) := (if p1 < (-100000) then some 0 else (if 100000 < p1 then some 0 else some 1))
def rm_Bc_isPlace : Room := { frames := 0, cells := 0, slots := 0, locals := 0 }
set_option maxHeartbeats 4000000 in
set_option maxRecDepth 100000 in
theorem m_Bc_isPlace (l : Launch) (dC : Nat → ClassId) (dI : Nat → Nat → Nat) (tC : Nat → ClassId) (p1 : Int64) (R : Int32) (H : Heap) (hf : f_Bc_isPlace p1 = some R) : Met l y_Bc_isPlace w_Bc_isPlace rm_Bc_isPlace (roP (dC, dI) tC H [.long p1]) (roQ H (some (.int R))) 0 0 (fun _ => False) := by
  refine Met.ofW (cc := c_Bc_isPlace) (maxL := 2) (ret := (some (.boolean))) (by decide) rfl ?_
  intro p e s m args below meth c s₁ B hml hv
  obtain ⟨hav, hH, hK⟩ := hv
  have hx := B.exec
  have hb := B.bytes
  have hr := B.returns
  have hts : ∀ w ∈ gw, w.before args s = true := fun w h => atoms_spec (ws := w_Bc_isPlace) B.pre w (List.mem_cons_of_mem _ h)
  have hown : s.vm.findClass RX8 = some m.cls := findClass_of_methodNamed B.named
  have hlocks := B.notSynchronized
  subst hH
  refine q_w (R := rm_Bc_isPlace) (fun Q hQ => ?_)
  refine en_w (av := [.long p1]) hav (Nat.le_of_ble_eq_true rfl) (fun ls hl => ?_)
  have hl : lv_has ls 2 [(0, .long p1)] := hl
  unfold f_Bc_isPlace at hf
  refine lv_lload_n hx hb d_Bc_isPlace_0 rfl (lv_at hl 0 rfl) ?_
  refine lv_ldc2 (v := (-100000)) hx hb hown (hts _ kK_8_235) d_Bc_isPlace_1 ?_
  refine W.lcmp hx hb d_Bc_isPlace_4 ?_
  refine lv_if_lt (tgt := 20) hx hb d_Bc_isPlace_5 (by decide) (fun c1 => ?_) (fun c1 => ?_)
  · have c1 := (lg_cmp_lt _ _).mp c1
    have hf := op_t hf c1
    refine lv_iconst (v := 0) hx hb d_Bc_isPlace_20 (by decide) ?_
    obtain rfl := Option.some.inj hf
    subst hQ
    exact W.zret (v := 0) (ty := .boolean) hx hb hr (by decide) (fun t ht hW => ⟨rfl, ht⟩) (fun q h => by cases h) d_Bc_isPlace_21
  · have c1 := fun h9 => c1 ((lg_cmp_lt _ _).mpr h9)
    have hf := op_e hf c1
    refine lv_lload_n hx hb d_Bc_isPlace_8 rfl (lv_at hl 0 rfl) ?_
    refine lv_ldc2 (v := 100000) hx hb hown (hts _ kK_8_237) d_Bc_isPlace_9 ?_
    refine W.lcmp hx hb d_Bc_isPlace_12 ?_
    refine lv_if_gt (tgt := 20) hx hb d_Bc_isPlace_13 (by decide) (fun c2 => ?_) (fun c2 => ?_)
    · have c2 := (lg_cmp_gt _ _).mp c2
      have hf := op_t hf c2
      refine lv_iconst (v := 0) hx hb d_Bc_isPlace_20 (by decide) ?_
      obtain rfl := Option.some.inj hf
      subst hQ
      exact W.zret (v := 0) (ty := .boolean) hx hb hr (by decide) (fun t ht hW => ⟨rfl, ht⟩) (fun q h => by cases h) d_Bc_isPlace_21
    · have c2 := fun h9 => c2 ((lg_cmp_gt _ _).mpr h9)
      have hf := op_e hf c2
      refine lv_iconst (v := 1) hx hb d_Bc_isPlace_16 (by decide) ?_
      refine lv_goto (tgt := 21) hx hb d_Bc_isPlace_17 (by decide) ?_
      obtain rfl := Option.some.inj hf
      subst hQ
      exact W.zret (v := 1) (ty := .boolean) hx hb hr (by decide) (fun t ht hW => ⟨rfl, ht⟩) (fun q h => by cases h) d_Bc_isPlace_21
def l_Bc_greatestCommonWithDivisor_4 : Nat → Int64 → Int32 → Option (Int32)
  | 0, _, _ => none
  | n + 1, x0, x2 => (if x2 ≤ 1 then some 1 else if x2 = 0 then none else (if (162 - 162 / x2 * x2) = 0 then if x2.toInt64 = 0 then none else (if (x0 - x0 / x2.toInt64 * x2.toInt64) = 0 then some x2 else l_Bc_greatestCommonWithDivisor_4 n x0 (x2 + (-1))) else l_Bc_greatestCommonWithDivisor_4 n x0 (x2 + (-1))))
def f_Bc_greatestCommonWithDivisor (p1 : Int64) : Option (Int32) := l_Bc_greatestCommonWithDivisor_4 fu p1 162
def rm_Bc_greatestCommonWithDivisor : Room := { frames := 0, cells := 0, slots := 0, locals := 0 }
set_option maxHeartbeats 4000000 in
set_option maxRecDepth 100000 in
theorem m_Bc_greatestCommonWithDivisor (l : Launch) (dC : Nat → ClassId) (dI : Nat → Nat → Nat) (tC : Nat → ClassId) (p1 : Int64) (R : Int32) (H : Heap) (hf : f_Bc_greatestCommonWithDivisor p1 = some R) : Met l y_Bc_greatestCommonWithDivisor w_Bc_greatestCommonWithDivisor rm_Bc_greatestCommonWithDivisor (roP (dC, dI) tC H [.long p1]) (roQ H (some (.int R))) 0 0 (fun _ => False) := by
  refine Met.ofW (cc := c_Bc_greatestCommonWithDivisor) (maxL := 3) (ret := (some (.int))) (by decide) rfl ?_
  intro p e s m args below meth c s₁ B hml hv
  obtain ⟨hav, hH, hK⟩ := hv
  have hx := B.exec
  have hb := B.bytes
  have hr := B.returns
  have hts : ∀ w ∈ gw, w.before args s = true := fun w h => atoms_spec (ws := w_Bc_greatestCommonWithDivisor) B.pre w (List.mem_cons_of_mem _ h)
  have hown : s.vm.findClass RX8 = some m.cls := findClass_of_methodNamed B.named
  have hlocks := B.notSynchronized
  subst hH
  refine q_w (R := rm_Bc_greatestCommonWithDivisor) (fun Q hQ => ?_)
  refine en_w (av := [.long p1]) hav (Nat.le_of_ble_eq_true rfl) (fun ls hl => ?_)
  have hl : lv_has ls 3 [(0, .long p1)] := hl
  unfold f_Bc_greatestCommonWithDivisor at hf
  refine lv_sipush (v := 162) hx hb d_Bc_greatestCommonWithDivisor_0 (by decide) ?_
  refine lv_istore_n (lv' := [(2, .int 162), (0, .long p1)]) hx hb d_Bc_greatestCommonWithDivisor_3 rfl hl (by decide) rfl (fun ls hl => ?_)
  have lp_4 : ∀ (n : Nat) (x0 : Int64) (x2 : Int32), l_Bc_greatestCommonWithDivisor_4 n x0 x2 = some R → ∀ ls : Array Slot, lv_has ls 3 [(2, .int x2), (0, .long x0)] → W p l e rm_Bc_greatestCommonWithDivisor s m args below meth c s.heap [] 0 0 Q (F0 m 4 ls []) := by
    intro n
    induction n with
    | zero => intro x0 x2 hf; cases hf
    | succ n ih_4 =>
      intro x0 x2 hf ls hl
      rw [l_Bc_greatestCommonWithDivisor_4] at hf
      refine lv_iload_n hx hb d_Bc_greatestCommonWithDivisor_4 rfl (lv_at hl 0 rfl) ?_
      refine lv_iconst (v := 1) hx hb d_Bc_greatestCommonWithDivisor_5 (by decide) ?_
      refine lv_icmp_le (tgt := 34) hx hb d_Bc_greatestCommonWithDivisor_6 (by decide) (fun c1 => ?_) (fun c1 => ?_)
      · have hf := op_t hf c1
        refine lv_iconst (v := 1) hx hb d_Bc_greatestCommonWithDivisor_34 (by decide) ?_
        obtain rfl := Option.some.inj hf
        subst hQ
        exact W.iret (v := 1) hx hb hr (fun t ht hW => ⟨rfl, ht⟩) (fun q h => by cases h) d_Bc_greatestCommonWithDivisor_35
      · have hf := op_e hf c1
        refine lv_sipush (v := 162) hx hb d_Bc_greatestCommonWithDivisor_9 (by decide) ?_
        refine lv_iload_n hx hb d_Bc_greatestCommonWithDivisor_12 rfl (lv_at hl 0 rfl) ?_
        obtain ⟨hz2, hf⟩ := op_nif hf
        refine lv_irem hx hb d_Bc_greatestCommonWithDivisor_13 hz2 ?_
        refine lv_if_ne (tgt := 28) hx hb d_Bc_greatestCommonWithDivisor_14 (by decide) (fun c3 => ?_) (fun c3 => ?_)
        · have hf := op_e hf c3
          refine lv_iinc (v := x2 + (-1)) (lv' := [(2, .int (x2 + (-1))), (0, .long x0)]) hx hb d_Bc_greatestCommonWithDivisor_28 hl (k := 0) rfl rfl (by decide) rfl (fun ls hl => ?_)
          refine lv_goto (tgt := 4) hx hb d_Bc_greatestCommonWithDivisor_31 (by decide) ?_
          exact ih_4 x0 (x2 + (-1)) hf _ (lv_sub hl [0, 1] rfl)
        · have hf := op_t hf c3
          refine lv_lload_n hx hb d_Bc_greatestCommonWithDivisor_17 rfl (lv_at hl 1 rfl) ?_
          refine lv_iload_n hx hb d_Bc_greatestCommonWithDivisor_18 rfl (lv_at hl 0 rfl) ?_
          refine lv_i2l (v := x2.toInt64) hx hb d_Bc_greatestCommonWithDivisor_19 rfl ?_
          obtain ⟨hz4, hf⟩ := op_nif hf
          refine lv_lrem hx hb d_Bc_greatestCommonWithDivisor_20 hz4 ?_
          refine lv_lconst (v := 0) hx hb d_Bc_greatestCommonWithDivisor_21 (by decide) ?_
          refine W.lcmp hx hb d_Bc_greatestCommonWithDivisor_22 ?_
          refine lv_if_ne (tgt := 28) hx hb d_Bc_greatestCommonWithDivisor_23 (by decide) (fun c5 => ?_) (fun c5 => ?_)
          · have c5 := fun h9 => c5 ((lg_cmp_eq _ _).mpr h9)
            have hf := op_e hf c5
            refine lv_iinc (v := x2 + (-1)) (lv' := [(2, .int (x2 + (-1))), (0, .long x0)]) hx hb d_Bc_greatestCommonWithDivisor_28 hl (k := 0) rfl rfl (by decide) rfl (fun ls hl => ?_)
            refine lv_goto (tgt := 4) hx hb d_Bc_greatestCommonWithDivisor_31 (by decide) ?_
            exact ih_4 x0 (x2 + (-1)) hf _ (lv_sub hl [0, 1] rfl)
          · have c5 := (lg_cmp_eq _ _).mp c5
            have hf := op_t hf c5
            refine lv_iload_n hx hb d_Bc_greatestCommonWithDivisor_26 rfl (lv_at hl 0 rfl) ?_
            obtain rfl := Option.some.inj hf
            subst hQ
            exact W.iret (v := x2) hx hb hr (fun t ht hW => ⟨rfl, ht⟩) (fun q h => by cases h) d_Bc_greatestCommonWithDivisor_27
  exact lp_4 fu p1 162 hf _ (lv_sub hl [0, 1] rfl)
