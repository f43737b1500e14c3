def l_Ff_firstWithRoom_2 : Nat → Int32 → Int32 → Int32 → MS → Option (Int32)
  | 0, _, _, _, _ => none
  | n + 1, x1, x2, x3, pl => (if (pl.1 1) ≤ x3 then some (-2) else if ix x3 60 then (if ((pl.2.1 5) x3.toNatClampNeg) < x2 then l_Ff_firstWithRoom_2 n x1 x2 (x3 + 1) pl else some x3) else none)
def f_Ff_firstWithRoom (pl : MS) (p2 : Int32) (p3 : Int32) : Option (Int32) := l_Ff_firstWithRoom_2 fu p2 p3 p2 pl
def rm_Ff_firstWithRoom : Room := { frames := 0, cells := 0, slots := 0, locals := 0 }
set_option maxHeartbeats 4000000 in
set_option maxRecDepth 100000 in
theorem m_Ff_firstWithRoom (l : Launch) (dC : Nat → ClassId) (dI : Nat → Nat → Nat) (tC : Nat → ClassId) (h_pl : Nat) (ad_pl : Nat → Nat) (pl : MS) (p2 : Int32) (p3 : Int32) (R : Int32) (H : Heap) (hP : va_P (dC, dI) vwCl (w_Pl_ h_pl ad_pl tC pl) H) (hf : f_Ff_firstWithRoom pl p2 p3 = some R) : Met l y_Ff_firstWithRoom w_Ff_firstWithRoom rm_Ff_firstWithRoom (roP (dC, dI) tC H [.ref h_pl, .int p2, .int p3]) (roQ H (some (.int R))) 0 0 (fun _ => False) := by
  refine Met.ofW (cc := c_Ff_firstWithRoom) (maxL := 4) (ret := (some (.int))) (by decide) rfl ?_
  intro p e s m args below meth c s₁ B hml hv
  obtain ⟨hav, hH, hK⟩ := hv
  have hx := B.exec
  have hb := B.bytes
  have hr := B.returns
  have hts : ∀ w ∈ gw, w.before args s = true := fun w h => atoms_spec (ws := w_Ff_firstWithRoom) B.pre w (List.mem_cons_of_mem _ h)
  have hown : s.vm.findClass RX0 = some m.cls := findClass_of_methodNamed B.named
  have hlocks := B.notSynchronized
  subst hH
  refine q_w (R := rm_Ff_firstWithRoom) (fun Q hQ => ?_)
  refine en_w (av := [.ref h_pl, .int p2, .int p3]) hav (Nat.le_of_ble_eq_true rfl) (fun ls hl => ?_)
  have hl : lv_has ls 4 [(0, .ref h_pl), (1, .int p2), (2, .int p3)] := hl
  unfold f_Ff_firstWithRoom at hf
  refine lv_iload_n hx hb d_Ff_firstWithRoom_0 rfl (lv_at hl 1 rfl) ?_
  refine lv_istore_n (lv' := [(3, .int p2), (0, .ref h_pl), (1, .int p2), (2, .int p3)]) hx hb d_Ff_firstWithRoom_1 rfl hl (by decide) rfl (fun ls hl => ?_)
  have lp_2 : ∀ (n : Nat) (x1 : Int32) (x2 : Int32) (x3 : Int32), l_Ff_firstWithRoom_2 n x1 x2 x3 pl = some R → ∀ ls : Array Slot, lv_has ls 4 [(3, .int x3), (0, .ref h_pl), (1, .int x1), (2, .int x2)] → W p l e rm_Ff_firstWithRoom s m args below meth c s.heap [] 0 0 Q (F0 m 2 ls []) := by
    intro n
    induction n with
    | zero => intro x1 x2 x3 hf; cases hf
    | succ n ih_2 =>
      intro x1 x2 x3 hf ls hl
      rw [l_Ff_firstWithRoom_2] at hf
      refine lv_iload_n hx hb d_Ff_firstWithRoom_2 rfl (lv_at hl 0 rfl) ?_
      refine lv_aload_n hx hb d_Ff_firstWithRoom_3 rfl (lv_at hl 1 rfl) ?_
      refine va_get (D := (dC, dI)) (ci := 3) (v := .int (pl.1 1)) (C := RX3) (T := TX3) (N := 12) hx hb hts in_X3 hown hK hP 0 rfl rfl 8 (by decide) (hts _ kF_0_15) (fun _ h9 => h9) rfl d_Ff_firstWithRoom_4 ?_
      refine lv_icmp_ge (tgt := 28) hx hb d_Ff_firstWithRoom_7 (by decide) (fun c1 => ?_) (fun c1 => ?_)
      · have hf := op_t hf c1
        refine lv_bipush (v := (-2)) hx hb d_Ff_firstWithRoom_28 (by decide) ?_
        obtain rfl := Option.some.inj hf
        subst hQ
        exact W.iret (v := (-2)) hx hb hr (fun t ht hW => ⟨rfl, ht⟩) (fun q h => by cases h) d_Ff_firstWithRoom_30
      · have hf := op_e hf c1
        refine lv_aload_n hx hb d_Ff_firstWithRoom_10 rfl (lv_at hl 1 rfl) ?_
        refine va_get (D := (dC, dI)) (ci := 3) (v := .ref (ad_pl 5)) (C := RX3) (T := TX3) (N := 12) hx hb hts in_X3 hown hK hP 0 rfl rfl 5 (by decide) (hts _ kF_0_56) (fun _ h9 => h9) rfl d_Ff_firstWithRoom_11 ?_
        refine lv_iload_n hx hb d_Ff_firstWithRoom_14 rfl (lv_at hl 0 rfl) ?_
        obtain ⟨hi2, hf⟩ := op_if hf
        refine va_iald (f := pl.2.1 5) hx hb hK hP 6 0 rfl rfl (ix_in hi2) d_Ff_firstWithRoom_15 ?_
        refine lv_iload_n hx hb d_Ff_firstWithRoom_16 rfl (lv_at hl 3 rfl) ?_
        refine lv_icmp_lt (tgt := 22) hx hb d_Ff_firstWithRoom_17 (by decide) (fun c3 => ?_) (fun c3 => ?_)
        · have hf := op_t hf c3
          refine lv_iinc (v := x3 + 1) (lv' := [(3, .int (x3 + 1)), (0, .ref h_pl), (1, .int x1), (2, .int x2)]) hx hb d_Ff_firstWithRoom_22 hl (k := 0) rfl rfl (by decide) rfl (fun ls hl => ?_)
          refine lv_goto (tgt := 2) hx hb d_Ff_firstWithRoom_25 (by decide) ?_
          exact ih_2 x1 x2 (x3 + 1) hf _ (lv_sub hl [0, 1, 2, 3] rfl)
        · have hf := op_e hf c3
          refine lv_iload_n hx hb d_Ff_firstWithRoom_20 rfl (lv_at hl 0 rfl) ?_
          obtain rfl := Option.some.inj hf
          subst hQ
          exact W.iret (v := x3) hx hb hr (fun t ht hW => ⟨rfl, ht⟩) (fun q h => by cases h) d_Ff_firstWithRoom_21
  exact lp_2 fu p2 p3 p2 hf _ (lv_sub hl [0, 1, 2, 3] rfl)
def l_Ff_leastKindFor_6 : Nat → Int32 → Int32 → Int32 → MS → MS → Option (Int32 × Int32)
  | 0, _, _, _, _, _ => none
  | n + 1, x2, x3, x4, ff, sf => (if (sf.1 0) ≤ x4 then some (x3, x4) else if ix x4 3 then ((if ((ff.2.1 0) x4.toNatClampNeg) ≤ 0 then some (0) else if ix x4 3 then (if ((sf.2.1 0) x4.toNatClampNeg) < x2 then some (0) else some (1)) else none) : Option (Int32)).bind fun q5 => (if q5 = 0 then l_Ff_leastKindFor_6 n x2 x3 (x4 + 1) ff sf else (if x3 = (-2) then l_Ff_leastKindFor_6 n x2 x4 (x4 + 1) ff sf else if ix x4 3 then if ix x3 3 then (if ((sf.2.1 0) x3.toNatClampNeg) ≤ ((sf.2.1 0) x4.toNatClampNeg) then l_Ff_leastKindFor_6 n x2 x3 (x4 + 1) ff sf else l_Ff_leastKindFor_6 n x2 x4 (x4 + 1) ff sf) else none else none)) else none)
def f_Ff_leastKindFor (ff : MS) (sf : MS) (p2 : Int32) : Option (Int32) := (l_Ff_leastKindFor_6 fu p2 (-2) 0 ff sf).bind fun q1 => some q1.1
def rm_Ff_leastKindFor : Room := { frames := 0, cells := 0, slots := 0, locals := 0 }
set_option maxHeartbeats 4000000 in
set_option maxRecDepth 100000 in
theorem m_Ff_leastKindFor (l : Launch) (dC : Nat → ClassId) (dI : Nat → Nat → Nat) (tC : Nat → ClassId) (h_ff : Nat) (ad_ff : Nat → Nat) (ff : MS) (h_sf : Nat) (ad_sf : Nat → Nat) (sf : MS) (p2 : Int32) (R : Int32) (H : Heap) (hP : va_P (dC, dI) vwCl (w_Ff_ h_ff ad_ff tC ff ++ w_Sf_ h_sf ad_sf tC sf) H) (hf : f_Ff_leastKindFor ff sf p2 = some R) : Met l y_Ff_leastKindFor w_Ff_leastKindFor rm_Ff_leastKindFor (roP (dC, dI) tC H [.ref h_ff, .ref h_sf, .int p2]) (roQ H (some (.int R))) 0 0 (fun _ => False) := by
  refine Met.ofW (cc := c_Ff_leastKindFor) (maxL := 6) (ret := (some (.int))) (by decide) rfl ?_
  intro p e s m args below meth c s₁ B hml hv
  obtain ⟨hav, hH, hK⟩ := hv
  have hx := B.exec
  have hb := B.bytes
  have hr := B.returns
  have hts : ∀ w ∈ gw, w.before args s = true := fun w h => atoms_spec (ws := w_Ff_leastKindFor) B.pre w (List.mem_cons_of_mem _ h)
  have hown : s.vm.findClass RX0 = some m.cls := findClass_of_methodNamed B.named
  have hlocks := B.notSynchronized
  subst hH
  refine q_w (R := rm_Ff_leastKindFor) (fun Q hQ => ?_)
  refine en_w (av := [.ref h_ff, .ref h_sf, .int p2]) hav (Nat.le_of_ble_eq_true rfl) (fun ls hl => ?_)
  have hl : lv_has ls 6 [(0, .ref h_ff), (1, .ref h_sf), (2, .int p2)] := hl
  unfold f_Ff_leastKindFor at hf
  refine lv_bipush (v := (-2)) hx hb d_Ff_leastKindFor_0 (by decide) ?_
  refine lv_istore_n (lv' := [(3, .int (-2)), (0, .ref h_ff), (1, .ref h_sf), (2, .int p2)]) hx hb d_Ff_leastKindFor_2 rfl hl (by decide) rfl (fun ls hl => ?_)
  refine lv_iconst (v := 0) hx hb d_Ff_leastKindFor_3 (by decide) ?_
  refine lv_istore (lv' := [(4, .int 0), (3, .int (-2)), (0, .ref h_ff), (1, .ref h_sf), (2, .int p2)]) hx hb d_Ff_leastKindFor_4 hl (by decide) rfl (fun ls hl => ?_)
  have lp_6 : ∀ (n : Nat) (x2 : Int32) (x3 : Int32) (x4 : Int32) (Rl : Int32 × Int32), l_Ff_leastKindFor_6 n x2 x3 x4 ff sf = some Rl → ∀ ls : Array Slot, lv_has ls 6 [(4, .int x4), (3, .int x3), (0, .ref h_ff), (1, .ref h_sf), (2, .int x2)] → (∀ ls : Array Slot, lv_has ls 6 [(4, .int Rl.2), (3, .int Rl.1), (0, .ref h_ff), (1, .ref h_sf), (2, .int x2)] → W p l e rm_Ff_leastKindFor s m args below meth c s.heap [] 0 0 Q (F0 m 79 ls [])) → W p l e rm_Ff_leastKindFor s m args below meth c s.heap [] 0 0 Q (F0 m 6 ls []) := by
    intro n
    induction n with
    | zero => intro x2 x3 x4 Rl hf; cases hf
    | succ n ih_6 =>
      intro x2 x3 x4 Rl hf ls hl Kk
      rw [l_Ff_leastKindFor_6] at hf
      refine lv_iload hx hb d_Ff_leastKindFor_6 (lv_at hl 0 rfl) ?_
      refine lv_aload_n hx hb d_Ff_leastKindFor_8 rfl (lv_at hl 3 rfl) ?_
      refine va_get (D := (dC, dI)) (ci := 5) (v := .int (sf.1 0)) (C := RX5) (T := TX5) (N := 3) hx hb hts in_X5 hown hK hP 2 rfl rfl 2 (by decide) (hts _ kF_0_59) (fun _ h9 => h9) rfl d_Ff_leastKindFor_9 ?_
      refine lv_icmp_ge (tgt := 79) hx hb d_Ff_leastKindFor_12 (by decide) (fun c2 => ?_) (fun c2 => ?_)
      · have hf := op_t hf c2
        obtain rfl := Option.some.inj hf
        exact Kk _ (lv_sub hl [0, 1, 2, 3, 4] rfl)
      · have hf := op_e hf c2
        refine lv_aload_n hx hb d_Ff_leastKindFor_15 rfl (lv_at hl 2 rfl) ?_
        refine va_get (D := (dC, dI)) (ci := 0) (v := .ref (ad_ff 0)) (C := RX0) (T := TX0) (N := 1) hx hb hts in_X0 hown hK hP 0 rfl rfl 0 (by decide) (hts _ kF_0_9) (fun _ h9 => h9) rfl d_Ff_leastKindFor_16 ?_
        refine lv_iload hx hb d_Ff_leastKindFor_19 (lv_at hl 0 rfl) ?_
        obtain ⟨hi3, hf⟩ := op_if hf
        refine va_iald (f := ff.2.1 0) hx hb hK hP 1 0 rfl rfl (ix_in hi3) d_Ff_leastKindFor_21 ?_
        obtain ⟨q5, hq5, hf⟩ := op_b hf
        have J_22 : ∀ ls : Array Slot, lv_has ls 6 [(4, .int x4), (3, .int x3), (0, .ref h_ff), (1, .ref h_sf), (2, .int x2)] → W p l e rm_Ff_leastKindFor s m args below meth c s.heap [] 0 0 Q (F0 m 41 ls [.int q5]) := by
          intro ls hl
          refine lv_istore (lv' := [(5, .int q5), (4, .int x4), (3, .int x3), (0, .ref h_ff), (1, .ref h_sf), (2, .int x2)]) hx hb d_Ff_leastKindFor_41 hl (by decide) rfl (fun ls hl => ?_)
          refine lv_iload hx hb d_Ff_leastKindFor_43 (lv_at hl 0 rfl) ?_
          refine lv_if_eq (tgt := 73) hx hb d_Ff_leastKindFor_45 (by decide) (fun c8 => ?_) (fun c8 => ?_)
          · have hf := op_t hf c8
            refine lv_iinc (v := x4 + 1) (lv' := [(4, .int (x4 + 1)), (5, .int q5), (3, .int x3), (0, .ref h_ff), (1, .ref h_sf), (2, .int x2)]) hx hb d_Ff_leastKindFor_73 hl (k := 1) rfl rfl (by decide) rfl (fun ls hl => ?_)
            refine lv_goto (tgt := 6) hx hb d_Ff_leastKindFor_76 (by decide) ?_
            exact ih_6 x2 x3 (x4 + 1) Rl hf _ (lv_sub hl [0, 2, 3, 4, 5] rfl) Kk
          · have hf := op_e hf c8
            refine lv_iload_n hx hb d_Ff_leastKindFor_48 rfl (lv_at hl 2 rfl) ?_
            refine lv_bipush (v := (-2)) hx hb d_Ff_leastKindFor_49 (by decide) ?_
            refine lv_icmp_eq (tgt := 70) hx hb d_Ff_leastKindFor_51 (by decide) (fun c9 => ?_) (fun c9 => ?_)
            · have hf := op_t hf c9
              refine lv_iload hx hb d_Ff_leastKindFor_70 (lv_at hl 1 rfl) ?_
              refine lv_istore_n (lv' := [(3, .int x4), (5, .int q5), (4, .int x4), (0, .ref h_ff), (1, .ref h_sf), (2, .int x2)]) hx hb d_Ff_leastKindFor_72 rfl hl (by decide) rfl (fun ls hl => ?_)
              refine lv_iinc (v := x4 + 1) (lv' := [(4, .int (x4 + 1)), (3, .int x4), (5, .int q5), (0, .ref h_ff), (1, .ref h_sf), (2, .int x2)]) hx hb d_Ff_leastKindFor_73 hl (k := 2) rfl rfl (by decide) rfl (fun ls hl => ?_)
              refine lv_goto (tgt := 6) hx hb d_Ff_leastKindFor_76 (by decide) ?_
              exact ih_6 x2 x4 (x4 + 1) Rl hf _ (lv_sub hl [0, 1, 3, 4, 5] rfl) Kk
            · have hf := op_e hf c9
              refine lv_aload_n hx hb d_Ff_leastKindFor_54 rfl (lv_at hl 4 rfl) ?_
              refine va_get (D := (dC, dI)) (ci := 5) (v := .ref (ad_sf 0)) (C := RX5) (T := TX5) (N := 3) hx hb hts in_X5 hown hK hP 2 rfl rfl 0 (by decide) (hts _ kF_0_45) (fun _ h9 => h9) rfl d_Ff_leastKindFor_55 ?_
              refine lv_iload hx hb d_Ff_leastKindFor_58 (lv_at hl 1 rfl) ?_
              obtain ⟨hi10, hf⟩ := op_if hf
              refine va_iald (f := sf.2.1 0) hx hb hK hP 3 0 rfl rfl (ix_in hi10) d_Ff_leastKindFor_60 ?_
              refine lv_aload_n hx hb d_Ff_leastKindFor_61 rfl (lv_at hl 4 rfl) ?_
              refine va_get (D := (dC, dI)) (ci := 5) (v := .ref (ad_sf 0)) (C := RX5) (T := TX5) (N := 3) hx hb hts in_X5 hown hK hP 2 rfl rfl 0 (by decide) (hts _ kF_0_45) (fun _ h9 => h9) rfl d_Ff_leastKindFor_62 ?_
              refine lv_iload_n hx hb d_Ff_leastKindFor_65 rfl (lv_at hl 2 rfl) ?_
              obtain ⟨hi11, hf⟩ := op_if hf
              refine va_iald (f := sf.2.1 0) hx hb hK hP 3 0 rfl rfl (ix_in hi11) d_Ff_leastKindFor_66 ?_
              refine lv_icmp_ge (tgt := 73) hx hb d_Ff_leastKindFor_67 (by decide) (fun c12 => ?_) (fun c12 => ?_)
              · have hf := op_t hf c12
                refine lv_iinc (v := x4 + 1) (lv' := [(4, .int (x4 + 1)), (5, .int q5), (3, .int x3), (0, .ref h_ff), (1, .ref h_sf), (2, .int x2)]) hx hb d_Ff_leastKindFor_73 hl (k := 1) rfl rfl (by decide) rfl (fun ls hl => ?_)
                refine lv_goto (tgt := 6) hx hb d_Ff_leastKindFor_76 (by decide) ?_
                exact ih_6 x2 x3 (x4 + 1) Rl hf _ (lv_sub hl [0, 2, 3, 4, 5] rfl) Kk
              · have hf := op_e hf c12
                refine lv_iload hx hb d_Ff_leastKindFor_70 (lv_at hl 1 rfl) ?_
                refine lv_istore_n (lv' := [(3, .int x4), (5, .int q5), (4, .int x4), (0, .ref h_ff), (1, .ref h_sf), (2, .int x2)]) hx hb d_Ff_leastKindFor_72 rfl hl (by decide) rfl (fun ls hl => ?_)
                refine lv_iinc (v := x4 + 1) (lv' := [(4, .int (x4 + 1)), (3, .int x4), (5, .int q5), (0, .ref h_ff), (1, .ref h_sf), (2, .int x2)]) hx hb d_Ff_leastKindFor_73 hl (k := 2) rfl rfl (by decide) rfl (fun ls hl => ?_)
                refine lv_goto (tgt := 6) hx hb d_Ff_leastKindFor_76 (by decide) ?_
                exact ih_6 x2 x4 (x4 + 1) Rl hf _ (lv_sub hl [0, 1, 3, 4, 5] rfl) Kk
        clear hf
        have hf := hq5
        clear hq5
        refine lv_if_le (tgt := 40) hx hb d_Ff_leastKindFor_22 (by decide) (fun c4 => ?_) (fun c4 => ?_)
        · have hf := op_t hf c4
          refine lv_iconst (v := 0) hx hb d_Ff_leastKindFor_40 (by decide) ?_
          obtain rfl := Option.some.inj hf
          exact J_22 _ (lv_sub hl [0, 1, 2, 3, 4] rfl)
        · have hf := op_e hf c4
          refine lv_aload_n hx hb d_Ff_leastKindFor_25 rfl (lv_at hl 3 rfl) ?_
          refine va_get (D := (dC, dI)) (ci := 5) (v := .ref (ad_sf 0)) (C := RX5) (T := TX5) (N := 3) hx hb hts in_X5 hown hK hP 2 rfl rfl 0 (by decide) (hts _ kF_0_45) (fun _ h9 => h9) rfl d_Ff_leastKindFor_26 ?_
          refine lv_iload hx hb d_Ff_leastKindFor_29 (lv_at hl 0 rfl) ?_
          obtain ⟨hi6, hf⟩ := op_if hf
          refine va_iald (f := sf.2.1 0) hx hb hK hP 3 0 rfl rfl (ix_in hi6) d_Ff_leastKindFor_31 ?_
          refine lv_iload_n hx hb d_Ff_leastKindFor_32 rfl (lv_at hl 4 rfl) ?_
          refine lv_icmp_lt (tgt := 40) hx hb d_Ff_leastKindFor_33 (by decide) (fun c7 => ?_) (fun c7 => ?_)
          · have hf := op_t hf c7
            refine lv_iconst (v := 0) hx hb d_Ff_leastKindFor_40 (by decide) ?_
            obtain rfl := Option.some.inj hf
            exact J_22 _ (lv_sub hl [0, 1, 2, 3, 4] rfl)
          · have hf := op_e hf c7
            refine lv_iconst (v := 1) hx hb d_Ff_leastKindFor_36 (by decide) ?_
            refine lv_goto (tgt := 41) hx hb d_Ff_leastKindFor_37 (by decide) ?_
            obtain rfl := Option.some.inj hf
            exact J_22 _ (lv_sub hl [0, 1, 2, 3, 4] rfl)
  obtain ⟨q1, hq1, hf⟩ := op_b hf
  refine lp_6 fu p2 (-2) 0 q1 hq1 _ (lv_sub hl [0, 1, 2, 3, 4] rfl) ?_
  intro ls hl
  refine lv_iload_n hx hb d_Ff_leastKindFor_79 rfl (lv_at hl 1 rfl) ?_
  obtain rfl := Option.some.inj hf
  subst hQ
  exact W.iret (v := q1.1) hx hb hr (fun t ht hW => ⟨rfl, ht⟩) (fun q h => by cases h) d_Ff_leastKindFor_80
def l_Ff_cut_24 : Nat → Int32 → Int32 → Int32 → Int32 → MS → MS → MS → Option (Int32 × MS × MS)
  | 0, _, _, _, _, _, _, _ => none
  | n + 1, x2, x3, x5, x6, ff, pl, sf => (if (pl.1 0) ≤ x6 then some (1, ff, pl) else if ix x6 60 then (some ((pl.2.1 1) x6.toNatClampNeg) : Option Int32).bind fun v5 => (f_Ff_firstWithRoom pl x5 v5).bind fun q6 => (if q6 = (-2) then (f_Ff_leastKindFor ff sf v5).bind fun q8 => (if q8 = (-2) then some (0, ff, pl) else if ix q8 3 then if ix q8 3 then (some (sA ff 0 (upd (ff.2.1 0) q8.toNatClampNeg (((ff.2.1 0) q8.toNatClampNeg) - 1)))).bind fun ff12 => if ix q8 3 then (f_Pl_openBar pl x3 ((sf.2.1 0) q8.toNatClampNeg)).bind fun q14 => (if q14.1 = (-2) then some (0, ff12, q14.2) else (f_Pl_putPiece q14.2 x6 q14.1).bind fun q16 => l_Ff_cut_24 n x2 x3 x5 (x6 + 1) ff12 q16.2 sf) else none else none else none) else (if q6 = (-2) then some (0, ff, pl) else (f_Pl_putPiece pl x6 q6).bind fun q18 => l_Ff_cut_24 n x2 x3 x5 (x6 + 1) ff q18.2 sf)) else none)
def f_Ff_cut (ff : MS) (pl : MS) (sf : MS) (p2 : Int32) (p3 : Int32) : Option (Int32 × MS × MS) := (some (pl.1 1) : Option Int32).bind fun v1 => (some (sA ff 0 (va_cpy (sf.2.1 1) (ff.2.1 0) (0 : Int32).toNatClampNeg (0 : Int32).toNatClampNeg (3 : Int32).toNatClampNeg))).bind fun ff2 => l_Ff_cut_24 fu p2 p3 v1 p2 ff2 pl sf
def rm_Ff_cut : Room := { frames := 1, cells := 0, slots := 0, locals := 40 }
set_option maxHeartbeats 4000000 in
set_option maxRecDepth 100000 in
theorem m_Ff_cut (l : Launch) (dC : Nat → ClassId) (dI : Nat → Nat → Nat) (tC : Nat → ClassId) (h_ff : Nat) (ad_ff : Nat → Nat) (ff : MS) (h_pl : Nat) (ad_pl : Nat → Nat) (pl : MS) (h_sf : Nat) (ad_sf : Nat → Nat) (sf : MS) (p2 : Int32) (p3 : Int32) (R : Int32 × MS × MS) (hf : f_Ff_cut ff pl sf p2 p3 = some R) (sz : Nat) : Met l y_Ff_cut w_Ff_cut rm_Ff_cut (wrP (dC, dI) tC (w_Ff_ h_ff ad_ff tC ff ++ (w_Pl_ h_pl ad_pl tC pl ++ w_Sf_ h_sf ad_sf tC sf)) sz [.ref h_ff, .ref h_pl, .int p2, .int p3, .ref h_sf]) (wrQ (dC, dI) (w_Ff_ h_ff ad_ff tC ff ++ (w_Pl_ h_pl ad_pl tC pl ++ w_Sf_ h_sf ad_sf tC sf)) sz (fun r w => r = (some (.int R.1)) ∧ w = (w_Ff_ h_ff ad_ff tC R.2.1 ++ (w_Pl_ h_pl ad_pl tC R.2.2 ++ w_Sf_ h_sf ad_sf tC sf)))) 0 0 (va_A (w_Ff_ h_ff ad_ff tC ff ++ (w_Pl_ h_pl ad_pl tC pl ++ w_Sf_ h_sf ad_sf tC sf)) sz) := by
  refine Met.ofW (cc := c_Ff_cut) (maxL := 10) (ret := (some (.boolean))) (by decide) rfl ?_
  intro p e s m args below meth c s₁ B hml hv
  obtain ⟨hav, hsz, hP, hK, hD0⟩ := hv
  have hx := B.exec
  have hb := B.bytes
  have hr := B.returns
  have hts : ∀ w ∈ gw, w.before args s = true := fun w h => atoms_spec (ws := w_Ff_cut) B.pre w (List.mem_cons_of_mem _ h)
  have hown : s.vm.findClass RX0 = some m.cls := findClass_of_methodNamed B.named
  have hlocks := B.notSynchronized
  subst hsz
  have hD := hD0.self (sz := s.heap.size)
  obtain ⟨A, hAe⟩ : ∃ z, z = va_A (w_Ff_ h_ff ad_ff tC ff ++ (w_Pl_ h_pl ad_pl tC pl ++ w_Sf_ h_sf ad_sf tC sf)) s.heap.size := ⟨_, rfl⟩
  rw [← hAe] at hD
  have hA : ∀ q : Nat, s.heap.size ≤ q → A q := fun q h => by rw [hAe]; exact Or.inr h
  have hS : va_S A s.heap s.heap [] := va_S.rf
  refine q_w (R := rm_Ff_cut) (fun Q hQ => ?_)
  refine en_w (av := [.ref h_ff, .ref h_pl, .int p2, .int p3, .ref h_sf]) hav (Nat.le_of_ble_eq_true rfl) (fun ls hl => ?_)
  have hl : lv_has ls 10 [(0, .ref h_ff), (1, .ref h_pl), (2, .int p2), (3, .int p3), (4, .ref h_sf)] := hl
  unfold f_Ff_cut at hf
  refine lv_aload_n hx hb d_Ff_cut_0 rfl (lv_at hl 1 rfl) ?_
  refine va_get (D := (dC, dI)) (ci := 3) (v := .int (pl.1 1)) (C := RX3) (T := TX3) (N := 12) hx hb hts in_X3 hown hK hP 2 rfl rfl 8 (by decide) (hts _ kF_0_15) (fun _ h9 => h9) rfl d_Ff_cut_1 ?_
  obtain ⟨v1, hv1, hf⟩ := op_b hf
  refine rw_i (y := v1) (Option.some.inj hv1) ?_
  refine lv_istore (lv' := [(5, .int v1), (0, .ref h_ff), (1, .ref h_pl), (2, .int p2), (3, .int p3), (4, .ref h_sf)]) hx hb d_Ff_cut_4 hl (by decide) rfl (fun ls hl => ?_)
  refine lv_aload hx hb d_Ff_cut_6 (lv_at hl 5 rfl) ?_
  refine va_get (D := (dC, dI)) (ci := 5) (v := .ref (ad_sf 1)) (C := RX5) (T := TX5) (N := 3) hx hb hts in_X5 hown hK hP 10 rfl rfl 1 (by decide) (hts _ kF_0_21) (fun _ h9 => h9) rfl d_Ff_cut_8 ?_
  refine lv_iconst (v := 0) hx hb d_Ff_cut_11 (by decide) ?_
  refine lv_aload_n hx hb d_Ff_cut_12 rfl (lv_at hl 1 rfl) ?_
  refine va_get (D := (dC, dI)) (ci := 0) (v := .ref (ad_ff 0)) (C := RX0) (T := TX0) (N := 1) hx hb hts in_X0 hown hK hP 0 rfl rfl 0 (by decide) (hts _ kF_0_9) (fun _ h9 => h9) rfl d_Ff_cut_13 ?_
  refine lv_iconst (v := 0) hx hb d_Ff_cut_16 (by decide) ?_
  refine lv_iconst (v := 3) hx hb d_Ff_cut_17 (by decide) ?_
  refine va_copyi (f := sf.2.1 1) (g := ff.2.1 0) hx hb (hml.trans hl.1.symm) hown (hts _ kM_0_25) (hts _ kN_copy) (hts _ kS_copy) (hts _ kZ_System) hK hP hD hS 12 1 0 0 (ty := .int) rfl rfl rfl rfl rfl (by decide) (by decide) (by decide) (by decide) (by decide) (fun _ _ => rfl) (Nat.le_of_ble_eq_true rfl) (Nat.le_of_ble_eq_true rfl) d_Ff_cut_18 (fun H locs hP hD hS => ?_)
  rw [sl_Ff_1, wu_Ff_a0] at hP hD
  obtain ⟨ff2, hff2, hf⟩ := op_b hf
  have hP : va_P (dC, dI) vwCl (w_Ff_ h_ff ad_ff tC ff2 ++ (w_Pl_ h_pl ad_pl tC pl ++ w_Sf_ h_sf ad_sf tC sf)) H := by rw [← Option.some.inj hff2]; exact hP
  have hD : va_D A (w_Ff_ h_ff ad_ff tC ff2 ++ (w_Pl_ h_pl ad_pl tC pl ++ w_Sf_ h_sf ad_sf tC sf)) := by rw [← Option.some.inj hff2]; exact hD
  refine lv_iload_n hx hb d_Ff_cut_21 rfl (lv_at hl 3 rfl) ?_
  refine lv_istore (lv' := [(6, .int p2), (5, .int v1), (0, .ref h_ff), (1, .ref h_pl), (2, .int p2), (3, .int p3), (4, .ref h_sf)]) hx hb d_Ff_cut_22 hl (by decide) rfl (fun ls hl => ?_)
  have lp_24 : ∀ (n : Nat) (x2 : Int32) (x3 : Int32) (x5 : Int32) (x6 : Int32) (ff : MS) (pl : MS), l_Ff_cut_24 n x2 x3 x5 x6 ff pl sf = some R → ∀ (H : Heap) (locs : List Loc), va_P (dC, dI) vwCl (w_Ff_ h_ff ad_ff tC ff ++ (w_Pl_ h_pl ad_pl tC pl ++ w_Sf_ h_sf ad_sf tC sf)) H → va_D A (w_Ff_ h_ff ad_ff tC ff ++ (w_Pl_ h_pl ad_pl tC pl ++ w_Sf_ h_sf ad_sf tC sf)) → va_S A s.heap H locs → ∀ ls : Array Slot, lv_has ls 10 [(6, .int x6), (5, .int x5), (0, .ref h_ff), (1, .ref h_pl), (2, .int x2), (3, .int x3), (4, .ref h_sf)] → W p l e rm_Ff_cut s m args below meth c H locs 0 0 Q (F0 m 24 ls []) := by
    intro n
    induction n with
    | zero => intro x2 x3 x5 x6 ff pl hf; cases hf
    | succ n ih_24 =>
      intro x2 x3 x5 x6 ff pl hf H locs hP hD hS ls hl
      rw [l_Ff_cut_24] at hf
      refine lv_iload hx hb d_Ff_cut_24 (lv_at hl 0 rfl) ?_
      refine lv_aload_n hx hb d_Ff_cut_26 rfl (lv_at hl 3 rfl) ?_
      refine va_get (D := (dC, dI)) (ci := 3) (v := .int (pl.1 0)) (C := RX3) (T := TX3) (N := 12) hx hb hts in_X3 hown hK hP 2 rfl rfl 7 (by decide) (hts _ kF_0_31) (fun _ h9 => h9) rfl d_Ff_cut_27 ?_
      refine lv_icmp_ge (tgt := 127) hx hb d_Ff_cut_30 (by decide) (fun c3 => ?_) (fun c3 => ?_)
      · have hf := op_t hf c3
        refine lv_iconst (v := 1) hx hb d_Ff_cut_127 (by decide) ?_
        obtain rfl := Option.some.inj hf
        subst hQ
        subst hAe
        exact W.zret (v := 1) (ty := .boolean) hx hb hr (by decide) (fun t ht hW => ⟨⟨_, _, rfl, ⟨rfl, rfl⟩, by rw [ht]; exact hP, hD⟩, hS.F ht⟩) hS.2.2 d_Ff_cut_128
      · have hf := op_e hf c3
        refine lv_aload_n hx hb d_Ff_cut_33 rfl (lv_at hl 3 rfl) ?_
        refine va_get (D := (dC, dI)) (ci := 3) (v := .ref (ad_pl 1)) (C := RX3) (T := TX3) (N := 12) hx hb hts in_X3 hown hK hP 2 rfl rfl 1 (by decide) (hts _ kF_0_34) (fun _ h9 => h9) rfl d_Ff_cut_34 ?_
        refine lv_iload hx hb d_Ff_cut_37 (lv_at hl 0 rfl) ?_
        obtain ⟨hi4, hf⟩ := op_if hf
        refine va_iald (f := pl.2.1 1) hx hb hK hP 4 0 rfl rfl (ix_in hi4) d_Ff_cut_39 ?_
        obtain ⟨v5, hv5, hf⟩ := op_b hf
        refine rw_i (y := v5) (Option.some.inj hv5) ?_
        refine lv_istore (lv' := [(7, .int v5), (6, .int x6), (5, .int x5), (0, .ref h_ff), (1, .ref h_pl), (2, .int x2), (3, .int x3), (4, .ref h_sf)]) hx hb d_Ff_cut_40 hl (by decide) rfl (fun ls hl => ?_)
        refine lv_aload_n hx hb d_Ff_cut_42 rfl (lv_at hl 4 rfl) ?_
        refine lv_iload hx hb d_Ff_cut_43 (lv_at hl 2 rfl) ?_
        refine lv_iload hx hb d_Ff_cut_45 (lv_at hl 0 rfl) ?_
        obtain ⟨q6, hq6, hf⟩ := op_b hf
        refine ro_go rfl (va_runS (As := [.ref h_pl, .int x5, .int v5]) (rest := []) ⟨hx, hb, hml, hown, hts⟩ (m_Ff_firstWithRoom l dC dI tC h_pl ad_pl pl x5 v5 q6 _ (hP.sub [2, 3, 4, 5, 6, 7, 8, 9] rfl) hq6) (cwS 3 hts (gd_S kM_0_37 kS_Ff_firstWithRoom kZ_0 kC_Ff_firstWithRoom) rfl rfl rfl (by decide +kernel) ⟨(Nat.le_of_ble_eq_true rfl), (Nat.le_of_ble_eq_true rfl)⟩) ⟨ro_blind, ro_pre hK⟩ rfl rfl hl.1 rfl (lv_room (Nat.le_of_ble_eq_true rfl)) d_Ff_cut_47 ⟨(Nat.le_of_ble_eq_true rfl), (Nat.le_of_ble_eq_true rfl)⟩) ?_
        refine W.eq (g2 := F0 m 50 ls [.int q6]) rfl ?_
        refine lv_istore (lv' := [(8, .int q6), (7, .int v5), (6, .int x6), (5, .int x5), (0, .ref h_ff), (1, .ref h_pl), (2, .int x2), (3, .int x3), (4, .ref h_sf)]) hx hb d_Ff_cut_50 hl (by decide) rfl (fun ls hl => ?_)
        refine lv_iload hx hb d_Ff_cut_52 (lv_at hl 0 rfl) ?_
        refine lv_bipush (v := (-2)) hx hb d_Ff_cut_54 (by decide) ?_
        refine lv_icmp_ne (tgt := 104) hx hb d_Ff_cut_56 (by decide) (fun c7 => ?_) (fun c7 => ?_)
        · have hf := op_e hf c7
          refine lv_iload hx hb d_Ff_cut_104 (lv_at hl 0 rfl) ?_
          refine lv_bipush (v := (-2)) hx hb d_Ff_cut_106 (by decide) ?_
          refine lv_icmp_ne (tgt := 113) hx hb d_Ff_cut_108 (by decide) (fun c17 => ?_) (fun c17 => ?_)
          · have hf := op_e hf c17
            refine lv_aload_n hx hb d_Ff_cut_113 rfl (lv_at hl 5 rfl) ?_
            refine lv_iload hx hb d_Ff_cut_114 (lv_at hl 2 rfl) ?_
            refine lv_iload hx hb d_Ff_cut_116 (lv_at hl 0 rfl) ?_
            obtain ⟨q18, hq18, hf⟩ := op_b hf
            have hPc := hP.sub (ws' := (w_Pl_ h_pl ad_pl tC pl)) [2, 3, 4, 5, 6, 7, 8, 9] rfl
            have hDc := hD.sub (ws' := (w_Pl_ h_pl ad_pl tC pl)) [2, 3, 4, 5, 6, 7, 8, 9] (by decide) rfl
            have hFc := va_free (wc := (w_Pl_ h_pl ad_pl tC pl)) hD hS hA [2, 3, 4, 5, 6, 7, 8, 9] rfl
            refine wr_go (va_runV (As := [.int x6, .int q6]) (rest := []) ⟨hx, hb, hml, hown, hts⟩ (m_Pl_putPiece l dC dI tC h_pl ad_pl pl x6 q6 q18 hq18 _) (cwV 2 hts (gd_V kM_0_52 kI_Pl_putPiece kV_Pl_putPiece kZ_3 kC_Pl_putPiece) rfl rfl rfl (by decide +kernel) ⟨(Nat.le_of_ble_eq_true rfl), (Nat.le_of_ble_eq_true rfl)⟩) ⟨wr_blind, va_recv hK hP (ci := 3) (q0 := 2) rfl rfl, wr_pre hK hPc hDc⟩ rfl rfl hl.1 rfl (lv_room (Nat.le_of_ble_eq_true rfl)) d_Ff_cut_118 ⟨(Nat.le_of_ble_eq_true rfl), (Nat.le_of_ble_eq_true rfl)⟩) hS hFc (fun r w1 H1 locs hw hP1 hD1 hk1 hS => ?_)
            obtain ⟨rfl, rfl⟩ := hw
            obtain ⟨hP, hD⟩ := jn_S hP hD [2, 3, 4, 5, 6, 7, 8, 9] (wc := (w_Pl_ h_pl ad_pl tC pl)) rfl hk1 hP1 rfl
            clear hP1 hD1 hk1 hPc hDc hFc
            have hP : va_P (dC, dI) vwCl (w_Ff_ h_ff ad_ff tC ff ++ (w_Pl_ h_pl ad_pl tC q18.2 ++ w_Sf_ h_sf ad_sf tC sf)) _ := hP
            have hD : va_D A (w_Ff_ h_ff ad_ff tC ff ++ (w_Pl_ h_pl ad_pl tC q18.2 ++ w_Sf_ h_sf ad_sf tC sf)) := hD
            refine W.eq (g2 := F0 m 121 ls []) rfl ?_
            refine lv_iinc (v := x6 + 1) (lv' := [(6, .int (x6 + 1)), (8, .int q6), (7, .int v5), (5, .int x5), (0, .ref h_ff), (1, .ref h_pl), (2, .int x2), (3, .int x3), (4, .ref h_sf)]) hx hb d_Ff_cut_121 hl (k := 2) rfl rfl (by decide) rfl (fun ls hl => ?_)
            refine lv_goto (tgt := 24) hx hb d_Ff_cut_124 (by decide) ?_
            exact ih_24 x2 x3 x5 (x6 + 1) ff q18.2 hf _ _ hP hD hS _ (lv_sub hl [0, 3, 4, 5, 6, 7, 8] rfl)
          · have hf := op_t hf c17
            refine lv_iconst (v := 0) hx hb d_Ff_cut_111 (by decide) ?_
            obtain rfl := Option.some.inj hf
            subst hQ
            subst hAe
            exact W.zret (v := 0) (ty := .boolean) hx hb hr (by decide) (fun t ht hW => ⟨⟨_, _, rfl, ⟨rfl, rfl⟩, by rw [ht]; exact hP, hD⟩, hS.F ht⟩) hS.2.2 d_Ff_cut_112
        · have hf := op_t hf c7
          refine lv_aload_n hx hb d_Ff_cut_59 rfl (lv_at hl 4 rfl) ?_
          refine lv_aload hx hb d_Ff_cut_60 (lv_at hl 8 rfl) ?_
          refine lv_iload hx hb d_Ff_cut_62 (lv_at hl 1 rfl) ?_
          obtain ⟨q8, hq8, hf⟩ := op_b hf
          refine ro_go rfl (va_runV (As := [.ref h_sf, .int v5]) (rest := []) ⟨hx, hb, hml, hown, hts⟩ (m_Ff_leastKindFor l dC dI tC h_ff ad_ff ff h_sf ad_sf sf v5 q8 _ (hP.sub [0, 1, 10, 11, 12] rfl) hq8) (cwV 2 hts (gd_V kM_0_41 kI_Ff_leastKindFor kV_Ff_leastKindFor kZ_0 kC_Ff_leastKindFor) rfl rfl rfl (by decide +kernel) ⟨(Nat.le_of_ble_eq_true rfl), (Nat.le_of_ble_eq_true rfl)⟩) ⟨ro_blind, va_recv hK hP (ci := 0) (q0 := 0) rfl rfl, ro_pre hK⟩ rfl rfl hl.1 rfl (lv_room (Nat.le_of_ble_eq_true rfl)) d_Ff_cut_64 ⟨(Nat.le_of_ble_eq_true rfl), (Nat.le_of_ble_eq_true rfl)⟩) ?_
          refine W.eq (g2 := F0 m 67 ls [.int q8]) rfl ?_
          refine lv_istore (lv' := [(9, .int q8), (8, .int q6), (7, .int v5), (6, .int x6), (5, .int x5), (0, .ref h_ff), (1, .ref h_pl), (2, .int x2), (3, .int x3), (4, .ref h_sf)]) hx hb d_Ff_cut_67 hl (by decide) rfl (fun ls hl => ?_)
          refine lv_iload hx hb d_Ff_cut_69 (lv_at hl 0 rfl) ?_
          refine lv_bipush (v := (-2)) hx hb d_Ff_cut_71 (by decide) ?_
          refine lv_icmp_ne (tgt := 78) hx hb d_Ff_cut_73 (by decide) (fun c9 => ?_) (fun c9 => ?_)
          · have hf := op_e hf c9
            refine lv_aload_n hx hb d_Ff_cut_78 rfl (lv_at hl 5 rfl) ?_
            refine va_get (D := (dC, dI)) (ci := 0) (v := .ref (ad_ff 0)) (C := RX0) (T := TX0) (N := 1) hx hb hts in_X0 hown hK hP 0 rfl rfl 0 (by decide) (hts _ kF_0_9) (fun _ h9 => h9) rfl d_Ff_cut_79 ?_
            refine lv_iload hx hb d_Ff_cut_82 (lv_at hl 0 rfl) ?_
            refine lv_dup2_11 hx hb d_Ff_cut_84 rfl rfl ?_
            obtain ⟨hi10, hf⟩ := op_if hf
            refine va_iald (f := ff.2.1 0) hx hb hK hP 1 0 rfl rfl (ix_in hi10) d_Ff_cut_85 ?_
            refine lv_iconst (v := 1) hx hb d_Ff_cut_86 (by decide) ?_
            refine lv_isub hx hb d_Ff_cut_87 ?_
            obtain ⟨hi11, hf⟩ := op_if hf
            refine va_iast (f := ff.2.1 0) hx hb hK hP hD hS 1 0 rfl rfl (ix_in hi11) d_Ff_cut_88 (fun H locs hP hD hS => ?_)
            rw [sl_Ff_1, wu_Ff_a0] at hP hD
            obtain ⟨ff12, hff12, hf⟩ := op_b hf
            have hP : va_P (dC, dI) vwCl (w_Ff_ h_ff ad_ff tC ff12 ++ (w_Pl_ h_pl ad_pl tC pl ++ w_Sf_ h_sf ad_sf tC sf)) H := by rw [← Option.some.inj hff12]; exact hP
            have hD : va_D A (w_Ff_ h_ff ad_ff tC ff12 ++ (w_Pl_ h_pl ad_pl tC pl ++ w_Sf_ h_sf ad_sf tC sf)) := by rw [← Option.some.inj hff12]; exact hD
            refine lv_aload_n hx hb d_Ff_cut_89 rfl (lv_at hl 6 rfl) ?_
            refine lv_iload_n hx hb d_Ff_cut_90 rfl (lv_at hl 8 rfl) ?_
            refine lv_aload hx hb d_Ff_cut_91 (lv_at hl 9 rfl) ?_
            refine va_get (D := (dC, dI)) (ci := 5) (v := .ref (ad_sf 0)) (C := RX5) (T := TX5) (N := 3) hx hb hts in_X5 hown hK hP 10 rfl rfl 0 (by decide) (hts _ kF_0_45) (fun _ h9 => h9) rfl d_Ff_cut_93 ?_
            refine lv_iload hx hb d_Ff_cut_96 (lv_at hl 0 rfl) ?_
            obtain ⟨hi13, hf⟩ := op_if hf
            refine va_iald (f := sf.2.1 0) hx hb hK hP 11 0 rfl rfl (ix_in hi13) d_Ff_cut_98 ?_
            obtain ⟨q14, hq14, hf⟩ := op_b hf
            have hPc := hP.sub (ws' := (w_Pl_ h_pl ad_pl tC pl)) [2, 3, 4, 5, 6, 7, 8, 9] rfl
            have hDc := hD.sub (ws' := (w_Pl_ h_pl ad_pl tC pl)) [2, 3, 4, 5, 6, 7, 8, 9] (by decide) rfl
            have hFc := va_free (wc := (w_Pl_ h_pl ad_pl tC pl)) hD hS hA [2, 3, 4, 5, 6, 7, 8, 9] rfl
            refine wr_go (va_runV (As := [.int x3, .int ((sf.2.1 0) q8.toNatClampNeg)]) (rest := []) ⟨hx, hb, hml, hown, hts⟩ (m_Pl_openBar l dC dI tC h_pl ad_pl pl x3 ((sf.2.1 0) q8.toNatClampNeg) q14 hq14 _) (cwV 2 hts (gd_V kM_0_48 kI_Pl_openBar kV_Pl_openBar kZ_3 kC_Pl_openBar) rfl rfl rfl (by decide +kernel) ⟨(Nat.le_of_ble_eq_true rfl), (Nat.le_of_ble_eq_true rfl)⟩) ⟨wr_blind, va_recv hK hP (ci := 3) (q0 := 2) rfl rfl, wr_pre hK hPc hDc⟩ rfl rfl hl.1 rfl (lv_room (Nat.le_of_ble_eq_true rfl)) d_Ff_cut_99 ⟨(Nat.le_of_ble_eq_true rfl), (Nat.le_of_ble_eq_true rfl)⟩) hS hFc (fun r w1 H1 locs hw hP1 hD1 hk1 hS => ?_)
            obtain ⟨rfl, rfl⟩ := hw
            obtain ⟨hP, hD⟩ := jn_S hP hD [2, 3, 4, 5, 6, 7, 8, 9] (wc := (w_Pl_ h_pl ad_pl tC pl)) rfl hk1 hP1 rfl
            clear hP1 hD1 hk1 hPc hDc hFc
            have hP : va_P (dC, dI) vwCl (w_Ff_ h_ff ad_ff tC ff12 ++ (w_Pl_ h_pl ad_pl tC q14.2 ++ w_Sf_ h_sf ad_sf tC sf)) _ := hP
            have hD : va_D A (w_Ff_ h_ff ad_ff tC ff12 ++ (w_Pl_ h_pl ad_pl tC q14.2 ++ w_Sf_ h_sf ad_sf tC sf)) := hD
            refine W.eq (g2 := F0 m 102 ls [.int q14.1]) rfl ?_
            refine lv_istore (lv' := [(8, .int q14.1), (9, .int q8), (7, .int v5), (6, .int x6), (5, .int x5), (0, .ref h_ff), (1, .ref h_pl), (2, .int x2), (3, .int x3), (4, .ref h_sf)]) hx hb d_Ff_cut_102 hl (by decide) rfl (fun ls hl => ?_)
            refine lv_iload hx hb d_Ff_cut_104 (lv_at hl 0 rfl) ?_
            refine lv_bipush (v := (-2)) hx hb d_Ff_cut_106 (by decide) ?_
            refine lv_icmp_ne (tgt := 113) hx hb d_Ff_cut_108 (by decide) (fun c15 => ?_) (fun c15 => ?_)
            · have hf := op_e hf c15
              refine lv_aload_n hx hb d_Ff_cut_113 rfl (lv_at hl 6 rfl) ?_
              refine lv_iload hx hb d_Ff_cut_114 (lv_at hl 3 rfl) ?_
              refine lv_iload hx hb d_Ff_cut_116 (lv_at hl 0 rfl) ?_
              obtain ⟨q16, hq16, hf⟩ := op_b hf
              have hPc := hP.sub (ws' := (w_Pl_ h_pl ad_pl tC q14.2)) [2, 3, 4, 5, 6, 7, 8, 9] rfl
              have hDc := hD.sub (ws' := (w_Pl_ h_pl ad_pl tC q14.2)) [2, 3, 4, 5, 6, 7, 8, 9] (by decide) rfl
              have hFc := va_free (wc := (w_Pl_ h_pl ad_pl tC q14.2)) hD hS hA [2, 3, 4, 5, 6, 7, 8, 9] rfl
              refine wr_go (va_runV (As := [.int x6, .int q14.1]) (rest := []) ⟨hx, hb, hml, hown, hts⟩ (m_Pl_putPiece l dC dI tC h_pl ad_pl q14.2 x6 q14.1 q16 hq16 _) (cwV 2 hts (gd_V kM_0_52 kI_Pl_putPiece kV_Pl_putPiece kZ_3 kC_Pl_putPiece) rfl rfl rfl (by decide +kernel) ⟨(Nat.le_of_ble_eq_true rfl), (Nat.le_of_ble_eq_true rfl)⟩) ⟨wr_blind, va_recv hK hP (ci := 3) (q0 := 2) rfl rfl, wr_pre hK hPc hDc⟩ rfl rfl hl.1 rfl (lv_room (Nat.le_of_ble_eq_true rfl)) d_Ff_cut_118 ⟨(Nat.le_of_ble_eq_true rfl), (Nat.le_of_ble_eq_true rfl)⟩) hS hFc (fun r w1 H1 locs hw hP1 hD1 hk1 hS => ?_)
              obtain ⟨rfl, rfl⟩ := hw
              obtain ⟨hP, hD⟩ := jn_S hP hD [2, 3, 4, 5, 6, 7, 8, 9] (wc := (w_Pl_ h_pl ad_pl tC q14.2)) rfl hk1 hP1 rfl
              clear hP1 hD1 hk1 hPc hDc hFc
              have hP : va_P (dC, dI) vwCl (w_Ff_ h_ff ad_ff tC ff12 ++ (w_Pl_ h_pl ad_pl tC q16.2 ++ w_Sf_ h_sf ad_sf tC sf)) _ := hP
              have hD : va_D A (w_Ff_ h_ff ad_ff tC ff12 ++ (w_Pl_ h_pl ad_pl tC q16.2 ++ w_Sf_ h_sf ad_sf tC sf)) := hD
              refine W.eq (g2 := F0 m 121 ls []) rfl ?_
              refine lv_iinc (v := x6 + 1) (lv' := [(6, .int (x6 + 1)), (8, .int q14.1), (9, .int q8), (7, .int v5), (5, .int x5), (0, .ref h_ff), (1, .ref h_pl), (2, .int x2), (3, .int x3), (4, .ref h_sf)]) hx hb d_Ff_cut_121 hl (k := 3) rfl rfl (by decide) rfl (fun ls hl => ?_)
              refine lv_goto (tgt := 24) hx hb d_Ff_cut_124 (by decide) ?_
              exact ih_24 x2 x3 x5 (x6 + 1) ff12 q16.2 hf _ _ hP hD hS _ (lv_sub hl [0, 4, 5, 6, 7, 8, 9] rfl)
            · have hf := op_t hf c15
              refine lv_iconst (v := 0) hx hb d_Ff_cut_111 (by decide) ?_
              obtain rfl := Option.some.inj hf
              subst hQ
              subst hAe
              exact W.zret (v := 0) (ty := .boolean) hx hb hr (by decide) (fun t ht hW => ⟨⟨_, _, rfl, ⟨rfl, rfl⟩, by rw [ht]; exact hP, hD⟩, hS.F ht⟩) hS.2.2 d_Ff_cut_112
          · have hf := op_t hf c9
            refine lv_iconst (v := 0) hx hb d_Ff_cut_76 (by decide) ?_
            obtain rfl := Option.some.inj hf
            subst hQ
            subst hAe
            exact W.zret (v := 0) (ty := .boolean) hx hb hr (by decide) (fun t ht hW => ⟨⟨_, _, rfl, ⟨rfl, rfl⟩, by rw [ht]; exact hP, hD⟩, hS.F ht⟩) hS.2.2 d_Ff_cut_77
  exact lp_24 fu p2 p3 v1 p2 ff2 pl hf _ _ hP hD hS _ (lv_sub hl [0, 1, 2, 3, 4, 5, 6] rfl)
def l_Lw_highestBit_4 : Nat → Int32 → Int32 → Option (Int32)
  | 0, _, _ => none
  | n + 1, x0, x1 => (if x1 ≤ 1 then some 1 else (if (x0 &&& x1) = 0 then (some (x1 / 2) : Option Int32).bind fun v3 => l_Lw_highestBit_4 n x0 v3 else some x1))
def f_Lw_highestBit (p1 : Int32) : Option (Int32) := l_Lw_highestBit_4 fu p1 128
def rm_Lw_highestBit : Room := { frames := 0, cells := 0, slots := 0, locals := 0 }
set_option maxHeartbeats 4000000 in
set_option maxRecDepth 100000 in
theorem m_Lw_highestBit (l : Launch) (dC : Nat → ClassId) (dI : Nat → Nat → Nat) (tC : Nat → ClassId) (p1 : Int32) (R : Int32) (H : Heap) (hf : f_Lw_highestBit p1 = some R) : Met l y_Lw_highestBit w_Lw_highestBit rm_Lw_highestBit (roP (dC, dI) tC H [.int p1]) (roQ H (some (.int R))) 0 0 (fun _ => False) := by
  refine Met.ofW (cc := c_Lw_highestBit) (maxL := 2) (ret := (some (.int))) (by decide) rfl ?_
  intro p e s m args below meth c s₁ B hml hv
  obtain ⟨hav, hH, hK⟩ := hv
  have hx := B.exec
  have hb := B.bytes
  have hr := B.returns
  have hts : ∀ w ∈ gw, w.before args s = true := fun w h => atoms_spec (ws := w_Lw_highestBit) B.pre w (List.mem_cons_of_mem _ h)
  have hown : s.vm.findClass RX1 = some m.cls := findClass_of_methodNamed B.named
  have hlocks := B.notSynchronized
  subst hH
  refine q_w (R := rm_Lw_highestBit) (fun Q hQ => ?_)
  refine en_w (av := [.int p1]) hav (Nat.le_of_ble_eq_true rfl) (fun ls hl => ?_)
  have hl : lv_has ls 2 [(0, .int p1)] := hl
  unfold f_Lw_highestBit at hf
  refine lv_sipush (v := 128) hx hb d_Lw_highestBit_0 (by decide) ?_
  refine lv_istore_n (lv' := [(1, .int 128), (0, .int p1)]) hx hb d_Lw_highestBit_3 rfl hl (by decide) rfl (fun ls hl => ?_)
  have lp_4 : ∀ (n : Nat) (x0 : Int32) (x1 : Int32), l_Lw_highestBit_4 n x0 x1 = some R → ∀ ls : Array Slot, lv_has ls 2 [(1, .int x1), (0, .int x0)] → W p l e rm_Lw_highestBit s m args below meth c s.heap [] 0 0 Q (F0 m 4 ls []) := by
    intro n
    induction n with
    | zero => intro x0 x1 hf; cases hf
    | succ n ih_4 =>
      intro x0 x1 hf ls hl
      rw [l_Lw_highestBit_4] at hf
      refine lv_iload_n hx hb d_Lw_highestBit_4 rfl (lv_at hl 0 rfl) ?_
      refine lv_iconst (v := 1) hx hb d_Lw_highestBit_5 (by decide) ?_
      refine lv_icmp_le (tgt := 24) hx hb d_Lw_highestBit_6 (by decide) (fun c1 => ?_) (fun c1 => ?_)
      · have hf := op_t hf c1
        refine lv_iconst (v := 1) hx hb d_Lw_highestBit_24 (by decide) ?_
        obtain rfl := Option.some.inj hf
        subst hQ
        exact W.iret (v := 1) hx hb hr (fun t ht hW => ⟨rfl, ht⟩) (fun q h => by cases h) d_Lw_highestBit_25
      · have hf := op_e hf c1
        refine lv_iload_n hx hb d_Lw_highestBit_9 rfl (lv_at hl 1 rfl) ?_
        refine lv_iload_n hx hb d_Lw_highestBit_10 rfl (lv_at hl 0 rfl) ?_
        refine lv_iand hx hb d_Lw_highestBit_11 ?_
        refine lv_if_eq (tgt := 17) hx hb d_Lw_highestBit_12 (by decide) (fun c2 => ?_) (fun c2 => ?_)
        · have hf := op_t hf c2
          refine lv_iload_n hx hb d_Lw_highestBit_17 rfl (lv_at hl 0 rfl) ?_
          refine lv_iconst (v := 2) hx hb d_Lw_highestBit_18 (by decide) ?_
          refine lv_idiv hx hb d_Lw_highestBit_19 (by decide) ?_
          obtain ⟨v3, hv3, hf⟩ := op_b hf
          refine rw_i (y := v3) (Option.some.inj hv3) ?_
          refine lv_istore_n (lv' := [(1, .int v3), (0, .int x0)]) hx hb d_Lw_highestBit_20 rfl hl (by decide) rfl (fun ls hl => ?_)
          refine lv_goto (tgt := 4) hx hb d_Lw_highestBit_21 (by decide) ?_
          exact ih_4 x0 v3 hf _ (lv_sub hl [0, 1] rfl)
        · have hf := op_e hf c2
          refine lv_iload_n hx hb d_Lw_highestBit_15 rfl (lv_at hl 0 rfl) ?_
          obtain rfl := Option.some.inj hf
          subst hQ
          exact W.iret (v := x1) hx hb hr (fun t ht hW => ⟨rfl, ht⟩) (fun q h => by cases h) d_Lw_highestBit_16
  exact lp_4 fu p1 128 hf _ (lv_sub hl [0, 1] rfl)
def f_Lw_costOfBar (lw : MS) (p1 : Int32) : Option (Int32) := if ix p1 3 then some ((((lw.2.1 2) p1.toNatClampNeg) * 16) + 1) else none
def rm_Lw_costOfBar : Room := { frames := 0, cells := 0, slots := 0, locals := 0 }
set_option maxHeartbeats 4000000 in
set_option maxRecDepth 100000 in
theorem m_Lw_costOfBar (l : Launch) (dC : Nat → ClassId) (dI : Nat → Nat → Nat) (tC : Nat → ClassId) (h_lw : Nat) (ad_lw : Nat → Nat) (lw : MS) (p1 : Int32) (R : Int32) (H : Heap) (hP : va_P (dC, dI) vwCl (w_Lw_ h_lw ad_lw tC lw) H) (hf : f_Lw_costOfBar lw p1 = some R) : Met l y_Lw_costOfBar w_Lw_costOfBar rm_Lw_costOfBar (roP (dC, dI) tC H [.ref h_lw, .int p1]) (roQ H (some (.int R))) 0 0 (fun _ => False) := by
  refine Met.ofW (cc := c_Lw_costOfBar) (maxL := 2) (ret := (some (.int))) (by decide) rfl ?_
  intro p e s m args below meth c s₁ B hml hv
  obtain ⟨hav, hH, hK⟩ := hv
  have hx := B.exec
  have hb := B.bytes
  have hr := B.returns
  have hts : ∀ w ∈ gw, w.before args s = true := fun w h => atoms_spec (ws := w_Lw_costOfBar) B.pre w (List.mem_cons_of_mem _ h)
  have hown : s.vm.findClass RX1 = some m.cls := findClass_of_methodNamed B.named
  have hlocks := B.notSynchronized
  subst hH
  refine q_w (R := rm_Lw_costOfBar) (fun Q hQ => ?_)
  refine en_w (av := [.ref h_lw, .int p1]) hav (Nat.le_of_ble_eq_true rfl) (fun ls hl => ?_)
  have hl : lv_has ls 2 [(0, .ref h_lw), (1, .int p1)] := hl
  unfold f_Lw_costOfBar at hf
  refine lv_aload_n hx hb d_Lw_costOfBar_0 rfl (lv_at hl 0 rfl) ?_
  refine va_get (D := (dC, dI)) (ci := 1) (v := .ref (ad_lw 2)) (C := RX1) (T := TX1) (N := 11) hx hb hts in_X1 hown hK hP 0 rfl rfl 2 (by decide) (hts _ kF_1_18) (fun _ h9 => h9) rfl d_Lw_costOfBar_1 ?_
  refine lv_iload_n hx hb d_Lw_costOfBar_4 rfl (lv_at hl 1 rfl) ?_
  obtain ⟨hi1, hf⟩ := op_if hf
  refine va_iald (f := lw.2.1 2) hx hb hK hP 3 0 rfl rfl (ix_in hi1) d_Lw_costOfBar_5 ?_
  refine lv_bipush (v := 16) hx hb d_Lw_costOfBar_6 (by decide) ?_
  refine lv_imul hx hb d_Lw_costOfBar_8 ?_
  refine lv_iconst (v := 1) hx hb d_Lw_costOfBar_9 (by decide) ?_
  refine lv_iadd hx hb d_Lw_costOfBar_10 ?_
  obtain rfl := Option.some.inj hf
  subst hQ
  exact W.iret (v := (((lw.2.1 2) p1.toNatClampNeg) * 16) + 1) hx hb hr (fun t ht hW => ⟨rfl, ht⟩) (fun q h => by cases h) d_Lw_costOfBar_11
def l_Lw_costOfCheapestBar_5 : Nat → Int32 → Int32 → Int32 → MS → Option (Int32 × Int32)
  | 0, _, _, _, _ => none
  | n + 1, x1, x2, x3, lw => (if (lw.1 0) ≤ x3 then some (x2, x3) else if ix x3 3 then (if ((lw.2.1 3) x3.toNatClampNeg) ≤ 0 then l_Lw_costOfCheapestBar_5 n x1 x2 (x3 + 1) lw else if ix x3 3 then (if ((lw.2.1 2) x3.toNatClampNeg) < x1 then l_Lw_costOfCheapestBar_5 n x1 x2 (x3 + 1) lw else (f_Lw_costOfBar lw x3).bind fun q7 => (some (if q7 < x2 then q7 else x2) : Option Int32).bind fun v8 => l_Lw_costOfCheapestBar_5 n x1 v8 (x3 + 1) lw) else none) else none)
def f_Lw_costOfCheapestBar (lw : MS) (p1 : Int32) : Option (Int32) := (l_Lw_costOfCheapestBar_5 fu p1 268435456 0 lw).bind fun q1 => some q1.1
def rm_Lw_costOfCheapestBar : Room := { frames := 1, cells := 0, slots := 0, locals := 30 }
set_option maxHeartbeats 4000000 in
set_option maxRecDepth 100000 in
theorem m_Lw_costOfCheapestBar (l : Launch) (dC : Nat → ClassId) (dI : Nat → Nat → Nat) (tC : Nat → ClassId) (h_lw : Nat) (ad_lw : Nat → Nat) (lw : MS) (p1 : Int32) (R : Int32) (H : Heap) (hP : va_P (dC, dI) vwCl (w_Lw_ h_lw ad_lw tC lw) H) (hf : f_Lw_costOfCheapestBar lw p1 = some R) : Met l y_Lw_costOfCheapestBar w_Lw_costOfCheapestBar rm_Lw_costOfCheapestBar (roP (dC, dI) tC H [.ref h_lw, .int p1]) (roQ H (some (.int R))) 0 0 (fun _ => False) := by
  refine Met.ofW (cc := c_Lw_costOfCheapestBar) (maxL := 4) (ret := (some (.int))) (by decide) rfl ?_
  intro p e s m args below meth c s₁ B hml hv
  obtain ⟨hav, hH, hK⟩ := hv
  have hx := B.exec
  have hb := B.bytes
  have hr := B.returns
  have hts : ∀ w ∈ gw, w.before args s = true := fun w h => atoms_spec (ws := w_Lw_costOfCheapestBar) B.pre w (List.mem_cons_of_mem _ h)
  have hown : s.vm.findClass RX1 = some m.cls := findClass_of_methodNamed B.named
  have hlocks := B.notSynchronized
  subst hH
  refine q_w (R := rm_Lw_costOfCheapestBar) (fun Q hQ => ?_)
  refine en_w (av := [.ref h_lw, .int p1]) hav (Nat.le_of_ble_eq_true rfl) (fun ls hl => ?_)
  have hl : lv_has ls 4 [(0, .ref h_lw), (1, .int p1)] := hl
  unfold f_Lw_costOfCheapestBar at hf
  refine lv_ldc (v := 268435456) hx hb hown (hts _ kK_1_66) d_Lw_costOfCheapestBar_0 ?_
  refine lv_istore_n (lv' := [(2, .int 268435456), (0, .ref h_lw), (1, .int p1)]) hx hb d_Lw_costOfCheapestBar_2 rfl hl (by decide) rfl (fun ls hl => ?_)
  refine lv_iconst (v := 0) hx hb d_Lw_costOfCheapestBar_3 (by decide) ?_
  refine lv_istore_n (lv' := [(3, .int 0), (2, .int 268435456), (0, .ref h_lw), (1, .int p1)]) hx hb d_Lw_costOfCheapestBar_4 rfl hl (by decide) rfl (fun ls hl => ?_)
  have lp_5 : ∀ (n : Nat) (x1 : Int32) (x2 : Int32) (x3 : Int32) (Rl : Int32 × Int32), l_Lw_costOfCheapestBar_5 n x1 x2 x3 lw = some Rl → ∀ ls : Array Slot, lv_has ls 4 [(3, .int x3), (2, .int x2), (0, .ref h_lw), (1, .int x1)] → (∀ ls : Array Slot, lv_has ls 4 [(3, .int Rl.2), (2, .int Rl.1), (0, .ref h_lw), (1, .int x1)] → W p l e rm_Lw_costOfCheapestBar s m args below meth c s.heap [] 0 0 Q (F0 m 48 ls [])) → W p l e rm_Lw_costOfCheapestBar s m args below meth c s.heap [] 0 0 Q (F0 m 5 ls []) := by
    intro n
    induction n with
    | zero => intro x1 x2 x3 Rl hf; cases hf
    | succ n ih_5 =>
      intro x1 x2 x3 Rl hf ls hl Kk
      rw [l_Lw_costOfCheapestBar_5] at hf
      refine lv_iload_n hx hb d_Lw_costOfCheapestBar_5 rfl (lv_at hl 0 rfl) ?_
      refine lv_aload_n hx hb d_Lw_costOfCheapestBar_6 rfl (lv_at hl 2 rfl) ?_
      refine va_get (D := (dC, dI)) (ci := 1) (v := .int (lw.1 0)) (C := RX1) (T := TX1) (N := 11) hx hb hts in_X1 hown hK hP 0 rfl rfl 8 (by decide) (hts _ kF_1_47) (fun _ h9 => h9) rfl d_Lw_costOfCheapestBar_7 ?_
      refine lv_icmp_ge (tgt := 48) hx hb d_Lw_costOfCheapestBar_10 (by decide) (fun c2 => ?_) (fun c2 => ?_)
      · have hf := op_t hf c2
        obtain rfl := Option.some.inj hf
        exact Kk _ (lv_sub hl [0, 1, 2, 3] rfl)
      · have hf := op_e hf c2
        refine lv_aload_n hx hb d_Lw_costOfCheapestBar_13 rfl (lv_at hl 2 rfl) ?_
        refine va_get (D := (dC, dI)) (ci := 1) (v := .ref (ad_lw 3)) (C := RX1) (T := TX1) (N := 11) hx hb hts in_X1 hown hK hP 0 rfl rfl 3 (by decide) (hts _ kF_1_21) (fun _ h9 => h9) rfl d_Lw_costOfCheapestBar_14 ?_
        refine lv_iload_n hx hb d_Lw_costOfCheapestBar_17 rfl (lv_at hl 0 rfl) ?_
        obtain ⟨hi3, hf⟩ := op_if hf
        refine va_iald (f := lw.2.1 3) hx hb hK hP 4 0 rfl rfl (ix_in hi3) d_Lw_costOfCheapestBar_18 ?_
        refine lv_if_le (tgt := 42) hx hb d_Lw_costOfCheapestBar_19 (by decide) (fun c4 => ?_) (fun c4 => ?_)
        · have hf := op_t hf c4
          refine lv_iinc (v := x3 + 1) (lv' := [(3, .int (x3 + 1)), (2, .int x2), (0, .ref h_lw), (1, .int x1)]) hx hb d_Lw_costOfCheapestBar_42 hl (k := 0) rfl rfl (by decide) rfl (fun ls hl => ?_)
          refine lv_goto (tgt := 5) hx hb d_Lw_costOfCheapestBar_45 (by decide) ?_
          exact ih_5 x1 x2 (x3 + 1) Rl hf _ (lv_sub hl [0, 1, 2, 3] rfl) Kk
        · have hf := op_e hf c4
          refine lv_aload_n hx hb d_Lw_costOfCheapestBar_22 rfl (lv_at hl 2 rfl) ?_
          refine va_get (D := (dC, dI)) (ci := 1) (v := .ref (ad_lw 2)) (C := RX1) (T := TX1) (N := 11) hx hb hts in_X1 hown hK hP 0 rfl rfl 2 (by decide) (hts _ kF_1_18) (fun _ h9 => h9) rfl d_Lw_costOfCheapestBar_23 ?_
          refine lv_iload_n hx hb d_Lw_costOfCheapestBar_26 rfl (lv_at hl 0 rfl) ?_
          obtain ⟨hi5, hf⟩ := op_if hf
          refine va_iald (f := lw.2.1 2) hx hb hK hP 3 0 rfl rfl (ix_in hi5) d_Lw_costOfCheapestBar_27 ?_
          refine lv_iload_n hx hb d_Lw_costOfCheapestBar_28 rfl (lv_at hl 3 rfl) ?_
          refine lv_icmp_lt (tgt := 42) hx hb d_Lw_costOfCheapestBar_29 (by decide) (fun c6 => ?_) (fun c6 => ?_)
          · have hf := op_t hf c6
            refine lv_iinc (v := x3 + 1) (lv' := [(3, .int (x3 + 1)), (2, .int x2), (0, .ref h_lw), (1, .int x1)]) hx hb d_Lw_costOfCheapestBar_42 hl (k := 0) rfl rfl (by decide) rfl (fun ls hl => ?_)
            refine lv_goto (tgt := 5) hx hb d_Lw_costOfCheapestBar_45 (by decide) ?_
            exact ih_5 x1 x2 (x3 + 1) Rl hf _ (lv_sub hl [0, 1, 2, 3] rfl) Kk
          · have hf := op_e hf c6
            refine lv_iload_n hx hb d_Lw_costOfCheapestBar_32 rfl (lv_at hl 1 rfl) ?_
            refine lv_aload_n hx hb d_Lw_costOfCheapestBar_33 rfl (lv_at hl 2 rfl) ?_
            refine lv_iload_n hx hb d_Lw_costOfCheapestBar_34 rfl (lv_at hl 0 rfl) ?_
            obtain ⟨q7, hq7, hf⟩ := op_b hf
            refine ro_go rfl (va_runV (As := [.int x3]) (rest := [.int x2]) ⟨hx, hb, hml, hown, hts⟩ (m_Lw_costOfBar l dC dI tC h_lw ad_lw lw x3 q7 _ hP hq7) (cwV 1 hts (gd_V kM_1_97 kI_Lw_costOfBar kV_Lw_costOfBar kZ_1 kC_Lw_costOfBar) rfl rfl rfl (by decide +kernel) ⟨(Nat.le_of_ble_eq_true rfl), (Nat.le_of_ble_eq_true rfl)⟩) ⟨ro_blind, va_recv hK hP (ci := 1) (q0 := 0) rfl rfl, ro_pre hK⟩ rfl rfl hl.1 rfl (lv_room (Nat.le_of_ble_eq_true rfl)) d_Lw_costOfCheapestBar_35 ⟨(Nat.le_of_ble_eq_true rfl), (Nat.le_of_ble_eq_true rfl)⟩) ?_
            refine W.eq (g2 := F0 m 38 ls [.int q7, .int x2]) rfl ?_
            refine va_mmin hx hb (hml.trans hl.1.symm) hown (hts _ kM_1_91) (hts _ kS_min) (hts _ kZ_Math) (hts _ kC_min) (Nat.le_of_ble_eq_true rfl) (Nat.le_of_ble_eq_true rfl) (Nat.le_of_ble_eq_true rfl) (Nat.le_of_ble_eq_true rfl) d_Lw_costOfCheapestBar_38 ?_
            obtain ⟨v8, hv8, hf⟩ := op_b hf
            refine rw_i (y := v8) (Option.some.inj hv8) ?_
            refine lv_istore_n (lv' := [(2, .int v8), (3, .int x3), (0, .ref h_lw), (1, .int x1)]) hx hb d_Lw_costOfCheapestBar_41 rfl hl (by decide) rfl (fun ls hl => ?_)
            refine lv_iinc (v := x3 + 1) (lv' := [(3, .int (x3 + 1)), (2, .int v8), (0, .ref h_lw), (1, .int x1)]) hx hb d_Lw_costOfCheapestBar_42 hl (k := 1) rfl rfl (by decide) rfl (fun ls hl => ?_)
            refine lv_goto (tgt := 5) hx hb d_Lw_costOfCheapestBar_45 (by decide) ?_
            exact ih_5 x1 v8 (x3 + 1) Rl hf _ (lv_sub hl [0, 1, 2, 3] rfl) Kk
  obtain ⟨q1, hq1, hf⟩ := op_b hf
  refine lp_5 fu p1 268435456 0 q1 hq1 _ (lv_sub hl [0, 1, 2, 3] rfl) ?_
  intro ls hl
  refine lv_iload_n hx hb d_Lw_costOfCheapestBar_48 rfl (lv_at hl 1 rfl) ?_
  obtain rfl := Option.some.inj hf
  subst hQ
  exact W.iret (v := q1.1) hx hb hr (fun t ht hW => ⟨rfl, ht⟩) (fun q h => by cases h) d_Lw_costOfCheapestBar_49
def l_Lw_findFloors_28 : Nat → Int32 → Int32 → Int32 → Int32 → Int32 → MS → Option (Int32 × Int32)
  | 0, _, _, _, _, _, _ => none
  | n + 1, x1, x2, x3, x4, x5, lw => (if x5 < x3 then some (x4, x5) else if ix x5 256 then (f_Lw_costOfCheapestBar lw ((lw.2.1 0) x5.toNatClampNeg)).bind fun q9 => if ix (x2 - x5) 256 then (some (if (q9 + ((lw.2.1 1) (x2 - x5).toNatClampNeg)) < x4 then (q9 + ((lw.2.1 1) (x2 - x5).toNatClampNeg)) else x4) : Option Int32).bind fun v11 => (some ((x5 - 1) &&& x2) : Option Int32).bind fun v12 => l_Lw_findFloors_28 n x1 x2 x3 v11 v12 lw else none else none)
def l_Lw_findFloors_9 : Nat → Int32 → Int32 → MS → Option (Int32 × MS)
  | 0, _, _, _ => none
  | n + 1, x1, x2, lw => (if (1 <<< (x1 &&& 31)) ≤ x2 then some (x2, lw) else (f_Lw_highestBit x2).bind fun q5 => (l_Lw_findFloors_28 fu x1 x2 q5 268435456 x2 lw).bind fun q6 => if ix x2 256 then (some (sA lw 1 (upd (lw.2.1 1) x2.toNatClampNeg q6.1))).bind fun lw14 => l_Lw_findFloors_9 n x1 (x2 + 1) lw14 else none)
def f_Lw_findFloors (lw : MS) (p1 : Int32) : Option (Unit × MS) := if ix 0 256 then (some (sA lw 1 (upd (lw.2.1 1) (0 : Int32).toNatClampNeg 0))).bind fun lw2 => (l_Lw_findFloors_9 fu p1 1 lw2).bind fun q3 => some ((), q3.2) else none
def rm_Lw_findFloors : Room := { frames := 2, cells := 0, slots := 0, locals := 53 }
set_option maxHeartbeats 4000000 in
set_option maxRecDepth 100000 in
theorem m_Lw_findFloors (l : Launch) (dC : Nat → ClassId) (dI : Nat → Nat → Nat) (tC : Nat → ClassId) (h_lw : Nat) (ad_lw : Nat → Nat) (lw : MS) (p1 : Int32) (R : Unit × MS) (hf : f_Lw_findFloors lw p1 = some R) (sz : Nat) : Met l y_Lw_findFloors w_Lw_findFloors rm_Lw_findFloors (wrP (dC, dI) tC (w_Lw_ h_lw ad_lw tC lw) sz [.ref h_lw, .int p1]) (wrQ (dC, dI) (w_Lw_ h_lw ad_lw tC lw) sz (fun r w => r = none ∧ w = (w_Lw_ h_lw ad_lw tC R.2))) 0 0 (va_A (w_Lw_ h_lw ad_lw tC lw) sz) := by
  refine Met.ofW (cc := c_Lw_findFloors) (maxL := 6) (ret := none) (by decide) rfl ?_
  intro p e s m args below meth c s₁ B hml hv
  obtain ⟨hav, hsz, hP, hK, hD0⟩ := hv
  have hx := B.exec
  have hb := B.bytes
  have hr := B.returns
  have hts : ∀ w ∈ gw, w.before args s = true := fun w h => atoms_spec (ws := w_Lw_findFloors) B.pre w (List.mem_cons_of_mem _ h)
  have hown : s.vm.findClass RX1 = some m.cls := findClass_of_methodNamed B.named
  have hlocks := B.notSynchronized
  subst hsz
  have hD := hD0.self (sz := s.heap.size)
  obtain ⟨A, hAe⟩ : ∃ z, z = va_A (w_Lw_ h_lw ad_lw tC lw) s.heap.size := ⟨_, rfl⟩
  rw [← hAe] at hD
  have hA : ∀ q : Nat, s.heap.size ≤ q → A q := fun q h => by rw [hAe]; exact Or.inr h
  have hS : va_S A s.heap s.heap [] := va_S.rf
  refine q_w (R := rm_Lw_findFloors) (fun Q hQ => ?_)
  refine en_w (av := [.ref h_lw, .int p1]) hav (Nat.le_of_ble_eq_true rfl) (fun ls hl => ?_)
  have hl : lv_has ls 6 [(0, .ref h_lw), (1, .int p1)] := hl
  unfold f_Lw_findFloors at hf
  refine lv_aload_n hx hb d_Lw_findFloors_0 rfl (lv_at hl 0 rfl) ?_
  refine va_get (D := (dC, dI)) (ci := 1) (v := .ref (ad_lw 1)) (C := RX1) (T := TX1) (N := 11) hx hb hts in_X1 hown hK hP 0 rfl rfl 1 (by decide) (hts _ kF_1_15) (fun _ h9 => h9) rfl d_Lw_findFloors_1 ?_
  refine lv_iconst (v := 0) hx hb d_Lw_findFloors_4 (by decide) ?_
  refine lv_iconst (v := 0) hx hb d_Lw_findFloors_5 (by decide) ?_
  obtain ⟨hi1, hf⟩ := op_if hf
  refine va_iast (f := lw.2.1 1) hx hb hK hP hD hS 2 0 rfl rfl (ix_in hi1) d_Lw_findFloors_6 (fun H locs hP hD hS => ?_)
  rw [wu_Lw_a1] at hP hD
  obtain ⟨lw2, hlw2, hf⟩ := op_b hf
  have hP : va_P (dC, dI) vwCl (w_Lw_ h_lw ad_lw tC lw2) H := by rw [← Option.some.inj hlw2]; exact hP
  have hD : va_D A (w_Lw_ h_lw ad_lw tC lw2) := by rw [← Option.some.inj hlw2]; exact hD
  refine lv_iconst (v := 1) hx hb d_Lw_findFloors_7 (by decide) ?_
  refine lv_istore_n (lv' := [(2, .int 1), (0, .ref h_lw), (1, .int p1)]) hx hb d_Lw_findFloors_8 rfl hl (by decide) rfl (fun ls hl => ?_)
  have lp_9 : ∀ (n : Nat) (x1 : Int32) (x2 : Int32) (lw : MS) (Rl : Int32 × MS), l_Lw_findFloors_9 n x1 x2 lw = some Rl → ∀ (H : Heap) (locs : List Loc), va_P (dC, dI) vwCl (w_Lw_ h_lw ad_lw tC lw) H → va_D A (w_Lw_ h_lw ad_lw tC lw) → va_S A s.heap H locs → ∀ ls : Array Slot, lv_has ls 6 [(2, .int x2), (0, .ref h_lw), (1, .int x1)] → (∀ (H : Heap) (locs : List Loc), va_P (dC, dI) vwCl (w_Lw_ h_lw ad_lw tC Rl.2) H → va_D A (w_Lw_ h_lw ad_lw tC Rl.2) → va_S A s.heap H locs → ∀ ls : Array Slot, lv_has ls 6 [(2, .int Rl.1), (0, .ref h_lw), (1, .int x1)] → W p l e rm_Lw_findFloors s m args below meth c H locs 0 0 Q (F0 m 87 ls [])) → W p l e rm_Lw_findFloors s m args below meth c H locs 0 0 Q (F0 m 9 ls []) := by
    intro n
    induction n with
    | zero => intro x1 x2 lw Rl hf; cases hf
    | succ n ih_9 =>
      intro x1 x2 lw Rl hf H locs hP hD hS ls hl Kk
      rw [l_Lw_findFloors_9] at hf
      refine lv_iload_n hx hb d_Lw_findFloors_9 rfl (lv_at hl 0 rfl) ?_
      refine lv_iconst (v := 1) hx hb d_Lw_findFloors_10 (by decide) ?_
      refine lv_iload_n hx hb d_Lw_findFloors_11 rfl (lv_at hl 2 rfl) ?_
      refine lv_ishl hx hb d_Lw_findFloors_12 ?_
      refine lv_icmp_ge (tgt := 87) hx hb d_Lw_findFloors_13 (by decide) (fun c4 => ?_) (fun c4 => ?_)
      · have hf := op_t hf c4
        obtain rfl := Option.some.inj hf
        exact Kk _ _ hP hD hS _ (lv_sub hl [0, 1, 2] rfl)
      · have hf := op_e hf c4
        refine lv_iload_n hx hb d_Lw_findFloors_16 rfl (lv_at hl 0 rfl) ?_
        obtain ⟨q5, hq5, hf⟩ := op_b hf
        refine ro_go rfl (va_runS (As := [.int x2]) (rest := []) ⟨hx, hb, hml, hown, hts⟩ (m_Lw_highestBit l dC dI tC x2 q5 _  hq5) (cwS 1 hts (gd_S kM_1_84 kS_Lw_highestBit kZ_1 kC_Lw_highestBit) rfl rfl rfl (by decide +kernel) ⟨(Nat.le_of_ble_eq_true rfl), (Nat.le_of_ble_eq_true rfl)⟩) ⟨ro_blind, ro_pre hK⟩ rfl rfl hl.1 rfl (lv_room (Nat.le_of_ble_eq_true rfl)) d_Lw_findFloors_17 ⟨(Nat.le_of_ble_eq_true rfl), (Nat.le_of_ble_eq_true rfl)⟩) ?_
        refine W.eq (g2 := F0 m 20 ls [.int q5]) rfl ?_
        refine lv_istore_n (lv' := [(3, .int q5), (2, .int x2), (0, .ref h_lw), (1, .int x1)]) hx hb d_Lw_findFloors_20 rfl hl (by decide) rfl (fun ls hl => ?_)
        refine lv_ldc (v := 268435456) hx hb hown (hts _ kK_1_66) d_Lw_findFloors_21 ?_
        refine lv_istore (lv' := [(4, .int 268435456), (3, .int q5), (2, .int x2), (0, .ref h_lw), (1, .int x1)]) hx hb d_Lw_findFloors_23 hl (by decide) rfl (fun ls hl => ?_)
        refine lv_iload_n hx hb d_Lw_findFloors_25 rfl (lv_at hl 2 rfl) ?_
        refine lv_istore (lv' := [(5, .int x2), (4, .int 268435456), (3, .int q5), (2, .int x2), (0, .ref h_lw), (1, .int x1)]) hx hb d_Lw_findFloors_26 hl (by decide) rfl (fun ls hl => ?_)
        have lp_28 : ∀ (n : Nat) (x1 : Int32) (x2 : Int32) (x3 : Int32) (x4 : Int32) (x5 : Int32) (lw : MS) (Rl : Int32 × Int32), l_Lw_findFloors_28 n x1 x2 x3 x4 x5 lw = some Rl → ∀ (H : Heap) (locs : List Loc), va_P (dC, dI) vwCl (w_Lw_ h_lw ad_lw tC lw) H → va_D A (w_Lw_ h_lw ad_lw tC lw) → va_S A s.heap H locs → ∀ ls : Array Slot, lv_has ls 6 [(5, .int x5), (4, .int x4), (3, .int x3), (2, .int x2), (0, .ref h_lw), (1, .int x1)] → (∀ (H : Heap) (locs : List Loc), va_P (dC, dI) vwCl (w_Lw_ h_lw ad_lw tC lw) H → va_D A (w_Lw_ h_lw ad_lw tC lw) → va_S A s.heap H locs → ∀ ls : Array Slot, lv_has ls 6 [(5, .int Rl.2), (4, .int Rl.1), (3, .int x3), (2, .int x2), (0, .ref h_lw), (1, .int x1)] → W p l e rm_Lw_findFloors s m args below meth c H locs 0 0 Q (F0 m 73 ls [])) → W p l e rm_Lw_findFloors s m args below meth c H locs 0 0 Q (F0 m 28 ls []) := by
          intro n
          induction n with
          | zero => intro x1 x2 x3 x4 x5 lw Rl hf; cases hf
          | succ n ih_28 =>
            intro x1 x2 x3 x4 x5 lw Rl hf H locs hP hD hS ls hl Kk
            rw [l_Lw_findFloors_28] at hf
            refine lv_iload hx hb d_Lw_findFloors_28 (lv_at hl 0 rfl) ?_
            refine lv_iload_n hx hb d_Lw_findFloors_30 rfl (lv_at hl 2 rfl) ?_
            refine lv_icmp_lt (tgt := 73) hx hb d_Lw_findFloors_31 (by decide) (fun c7 => ?_) (fun c7 => ?_)
            · have hf := op_t hf c7
              obtain rfl := Option.some.inj hf
              exact Kk _ _ hP hD hS _ (lv_sub hl [0, 1, 2, 3, 4, 5] rfl)
            · have hf := op_e hf c7
              refine lv_iload hx hb d_Lw_findFloors_34 (lv_at hl 1 rfl) ?_
              refine lv_aload_n hx hb d_Lw_findFloors_36 rfl (lv_at hl 4 rfl) ?_
              refine lv_aload_n hx hb d_Lw_findFloors_37 rfl (lv_at hl 4 rfl) ?_
              refine va_get (D := (dC, dI)) (ci := 1) (v := .ref (ad_lw 0)) (C := RX1) (T := TX1) (N := 11) hx hb hts in_X1 hown hK hP 0 rfl rfl 0 (by decide) (hts _ kF_1_11) (fun _ h9 => h9) rfl d_Lw_findFloors_38 ?_
              refine lv_iload hx hb d_Lw_findFloors_41 (lv_at hl 0 rfl) ?_
              obtain ⟨hi8, hf⟩ := op_if hf
              refine va_iald (f := lw.2.1 0) hx hb hK hP 1 0 rfl rfl (ix_in hi8) d_Lw_findFloors_43 ?_
              obtain ⟨q9, hq9, hf⟩ := op_b hf
              refine ro_go rfl (va_runV (As := [.int ((lw.2.1 0) x5.toNatClampNeg)]) (rest := [.int x4]) ⟨hx, hb, hml, hown, hts⟩ (m_Lw_costOfCheapestBar l dC dI tC h_lw ad_lw lw ((lw.2.1 0) x5.toNatClampNeg) q9 _ hP hq9) (cwV 1 hts (gd_V kM_1_88 kI_Lw_costOfCheapestBar kV_Lw_costOfCheapestBar kZ_1 kC_Lw_costOfCheapestBar) rfl rfl rfl (by decide +kernel) ⟨(Nat.le_of_ble_eq_true rfl), (Nat.le_of_ble_eq_true rfl)⟩) ⟨ro_blind, va_recv hK hP (ci := 1) (q0 := 0) rfl rfl, ro_pre hK⟩ rfl rfl hl.1 rfl (lv_room (Nat.le_of_ble_eq_true rfl)) d_Lw_findFloors_44 ⟨(Nat.le_of_ble_eq_true rfl), (Nat.le_of_ble_eq_true rfl)⟩) ?_
              refine W.eq (g2 := F0 m 47 ls [.int q9, .int x4]) rfl ?_
              refine lv_aload_n hx hb d_Lw_findFloors_47 rfl (lv_at hl 4 rfl) ?_
              refine va_get (D := (dC, dI)) (ci := 1) (v := .ref (ad_lw 1)) (C := RX1) (T := TX1) (N := 11) hx hb hts in_X1 hown hK hP 0 rfl rfl 1 (by decide) (hts _ kF_1_15) (fun _ h9 => h9) rfl d_Lw_findFloors_48 ?_
              refine lv_iload_n hx hb d_Lw_findFloors_51 rfl (lv_at hl 3 rfl) ?_
              refine lv_iload hx hb d_Lw_findFloors_52 (lv_at hl 0 rfl) ?_
              refine lv_isub hx hb d_Lw_findFloors_54 ?_
              obtain ⟨hi10, hf⟩ := op_if hf
              refine va_iald (f := lw.2.1 1) hx hb hK hP 2 0 rfl rfl (ix_in hi10) d_Lw_findFloors_55 ?_
              refine lv_iadd hx hb d_Lw_findFloors_56 ?_
              refine va_mmin hx hb (hml.trans hl.1.symm) hown (hts _ kM_1_91) (hts _ kS_min) (hts _ kZ_Math) (hts _ kC_min) (Nat.le_of_ble_eq_true rfl) (Nat.le_of_ble_eq_true rfl) (Nat.le_of_ble_eq_true rfl) (Nat.le_of_ble_eq_true rfl) d_Lw_findFloors_57 ?_
              obtain ⟨v11, hv11, hf⟩ := op_b hf
              refine rw_i (y := v11) (Option.some.inj hv11) ?_
              refine lv_istore (lv' := [(4, .int v11), (5, .int x5), (3, .int x3), (2, .int x2), (0, .ref h_lw), (1, .int x1)]) hx hb d_Lw_findFloors_60 hl (by decide) rfl (fun ls hl => ?_)
              refine lv_iload hx hb d_Lw_findFloors_62 (lv_at hl 1 rfl) ?_
              refine lv_iconst (v := 1) hx hb d_Lw_findFloors_64 (by decide) ?_
              refine lv_isub hx hb d_Lw_findFloors_65 ?_
              refine lv_iload_n hx hb d_Lw_findFloors_66 rfl (lv_at hl 3 rfl) ?_
              refine lv_iand hx hb d_Lw_findFloors_67 ?_
              obtain ⟨v12, hv12, hf⟩ := op_b hf
              refine rw_i (y := v12) (Option.some.inj hv12) ?_
              refine lv_istore (lv' := [(5, .int v12), (4, .int v11), (3, .int x3), (2, .int x2), (0, .ref h_lw), (1, .int x1)]) hx hb d_Lw_findFloors_68 hl (by decide) rfl (fun ls hl => ?_)
              refine lv_goto (tgt := 28) hx hb d_Lw_findFloors_70 (by decide) ?_
              exact ih_28 x1 x2 x3 v11 v12 lw Rl hf _ _ hP hD hS _ (lv_sub hl [0, 1, 2, 3, 4, 5] rfl) Kk
        obtain ⟨q6, hq6, hf⟩ := op_b hf
        refine lp_28 fu x1 x2 q5 268435456 x2 lw q6 hq6 _ _ hP hD hS _ (lv_sub hl [0, 1, 2, 3, 4, 5] rfl) ?_
        intro H locs hP hD hS ls hl
        refine lv_aload_n hx hb d_Lw_findFloors_73 rfl (lv_at hl 4 rfl) ?_
        refine va_get (D := (dC, dI)) (ci := 1) (v := .ref (ad_lw 1)) (C := RX1) (T := TX1) (N := 11) hx hb hts in_X1 hown hK hP 0 rfl rfl 1 (by decide) (hts _ kF_1_15) (fun _ h9 => h9) rfl d_Lw_findFloors_74 ?_
        refine lv_iload_n hx hb d_Lw_findFloors_77 rfl (lv_at hl 3 rfl) ?_
        refine lv_iload hx hb d_Lw_findFloors_78 (lv_at hl 1 rfl) ?_
        obtain ⟨hi13, hf⟩ := op_if hf
        refine va_iast (f := lw.2.1 1) hx hb hK hP hD hS 2 0 rfl rfl (ix_in hi13) d_Lw_findFloors_80 (fun H locs hP hD hS => ?_)
        rw [wu_Lw_a1] at hP hD
        obtain ⟨lw14, hlw14, hf⟩ := op_b hf
        have hP : va_P (dC, dI) vwCl (w_Lw_ h_lw ad_lw tC lw14) H := by rw [← Option.some.inj hlw14]; exact hP
        have hD : va_D A (w_Lw_ h_lw ad_lw tC lw14) := by rw [← Option.some.inj hlw14]; exact hD
        refine lv_iinc (v := x2 + 1) (lv' := [(2, .int (x2 + 1)), (5, .int q6.2), (4, .int q6.1), (3, .int q5), (0, .ref h_lw), (1, .int x1)]) hx hb d_Lw_findFloors_81 hl (k := 3) rfl rfl (by decide) rfl (fun ls hl => ?_)
        refine lv_goto (tgt := 9) hx hb d_Lw_findFloors_84 (by decide) ?_
        exact ih_9 x1 (x2 + 1) lw14 Rl hf _ _ hP hD hS _ (lv_sub hl [0, 4, 5] rfl) Kk
  obtain ⟨q3, hq3, hf⟩ := op_b hf
  refine lp_9 fu p1 1 lw2 q3 hq3 _ _ hP hD hS _ (lv_sub hl [0, 1, 2] rfl) ?_
  intro H locs hP hD hS ls hl
  obtain rfl := Option.some.inj hf
  subst hQ
  subst hAe
  exact W.vret hx hb hr (fun t ht hW => ⟨⟨_, _, rfl, ⟨rfl, rfl⟩, by rw [ht]; exact hP, hD⟩, hS.F ht⟩) hS.2.2 d_Lw_findFloors_87
def l_Lw_keep_12 : Nat → Int32 → Int32 → Int32 → MS → Option (Int32 × MS)
  | 0, _, _, _, _ => none
  | n + 1, x1, x2, x3, lw => (if x1 ≤ x3 then some (x3, lw) else if ix x3 8 then if ix x3 8 then (some (sA lw 6 (upd (lw.2.1 6) x3.toNatClampNeg ((lw.2.1 4) x3.toNatClampNeg)))).bind fun lw7 => if ix x3 8 then if ix x3 8 then (some (sA lw7 7 (upd (lw7.2.1 7) x3.toNatClampNeg ((lw7.2.1 5) x3.toNatClampNeg)))).bind fun lw10 => l_Lw_keep_12 n x1 x2 (x3 + 1) lw10 else none else none else none else none)
def f_Lw_keep (lw : MS) (p1 : Int32) (p2 : Int32) : Option (Unit × MS) := (some (sI lw 1 p2)).bind fun lw1 => (some (sI lw1 2 p1)).bind fun lw2 => (l_Lw_keep_12 fu p1 p2 0 lw2).bind fun q3 => some ((), q3.2)
def rm_Lw_keep : Room := { frames := 0, cells := 0, slots := 0, locals := 0 }
set_option maxHeartbeats 4000000 in
set_option maxRecDepth 100000 in
theorem m_Lw_keep (l : Launch) (dC : Nat → ClassId) (dI : Nat → Nat → Nat) (tC : Nat → ClassId) (h_lw : Nat) (ad_lw : Nat → Nat) (lw : MS) (p1 : Int32) (p2 : Int32) (R : Unit × MS) (hf : f_Lw_keep lw p1 p2 = some R) (sz : Nat) : Met l y_Lw_keep w_Lw_keep rm_Lw_keep (wrP (dC, dI) tC (w_Lw_ h_lw ad_lw tC lw) sz [.ref h_lw, .int p1, .int p2]) (wrQ (dC, dI) (w_Lw_ h_lw ad_lw tC lw) sz (fun r w => r = none ∧ w = (w_Lw_ h_lw ad_lw tC R.2))) 0 0 (va_A (w_Lw_ h_lw ad_lw tC lw) sz) := by
  refine Met.ofW (cc := c_Lw_keep) (maxL := 4) (ret := none) (by decide) rfl ?_
  intro p e s m args below meth c s₁ B hml hv
  obtain ⟨hav, hsz, hP, hK, hD0⟩ := hv
  have hx := B.exec
  have hb := B.bytes
  have hr := B.returns
  have hts : ∀ w ∈ gw, w.before args s = true := fun w h => atoms_spec (ws := w_Lw_keep) B.pre w (List.mem_cons_of_mem _ h)
  have hown : s.vm.findClass RX1 = some m.cls := findClass_of_methodNamed B.named
  have hlocks := B.notSynchronized
  subst hsz
  have hD := hD0.self (sz := s.heap.size)
  obtain ⟨A, hAe⟩ : ∃ z, z = va_A (w_Lw_ h_lw ad_lw tC lw) s.heap.size := ⟨_, rfl⟩
  rw [← hAe] at hD
  have hA : ∀ q : Nat, s.heap.size ≤ q → A q := fun q h => by rw [hAe]; exact Or.inr h
  have hS : va_S A s.heap s.heap [] := va_S.rf
  refine q_w (R := rm_Lw_keep) (fun Q hQ => ?_)
  refine en_w (av := [.ref h_lw, .int p1, .int p2]) hav (Nat.le_of_ble_eq_true rfl) (fun ls hl => ?_)
  have hl : lv_has ls 4 [(0, .ref h_lw), (1, .int p1), (2, .int p2)] := hl
  unfold f_Lw_keep at hf
  refine lv_aload_n hx hb d_Lw_keep_0 rfl (lv_at hl 0 rfl) ?_
  refine lv_iload_n hx hb d_Lw_keep_1 rfl (lv_at hl 2 rfl) ?_
  refine va_put (D := (dC, dI)) (ci := 1) (v := .int p2) (ty := .int) (C := RX1) (T := TX1) (N := 11) hx hb hts in_X1 tyX1 tyX1_ok nmX1 hown hK hP hD hS 0 (fs := [.ref (ad_lw 0), .ref (ad_lw 1), .ref (ad_lw 2), .ref (ad_lw 3), .ref (ad_lw 4), .ref (ad_lw 5), .ref (ad_lw 6), .ref (ad_lw 7), .int (lw.1 0), .int (lw.1 1), .int (lw.1 2)]) rfl rfl 9 (by decide) (hts _ kF_1_67) (fun _ h9 => h9) rfl (by decide +kernel) (rfl) (rfl) (Nat.le_of_ble_eq_true rfl) d_Lw_keep_2 (fun H locs hP hD hS => ?_)
  rw [wu_Lw_s1] at hP hD
  obtain ⟨lw1, hlw1, hf⟩ := op_b hf
  have hP : va_P (dC, dI) vwCl (w_Lw_ h_lw ad_lw tC lw1) H := by rw [← Option.some.inj hlw1]; exact hP
  have hD : va_D A (w_Lw_ h_lw ad_lw tC lw1) := by rw [← Option.some.inj hlw1]; exact hD
  refine lv_aload_n hx hb d_Lw_keep_5 rfl (lv_at hl 0 rfl) ?_
  refine lv_iload_n hx hb d_Lw_keep_6 rfl (lv_at hl 1 rfl) ?_
  refine va_put (D := (dC, dI)) (ci := 1) (v := .int p1) (ty := .int) (C := RX1) (T := TX1) (N := 11) hx hb hts in_X1 tyX1 tyX1_ok nmX1 hown hK hP hD hS 0 (fs := [.ref (ad_lw 0), .ref (ad_lw 1), .ref (ad_lw 2), .ref (ad_lw 3), .ref (ad_lw 4), .ref (ad_lw 5), .ref (ad_lw 6), .ref (ad_lw 7), .int (lw1.1 0), .int (lw1.1 1), .int (lw1.1 2)]) rfl rfl 10 (by decide) (hts _ kF_1_70) (fun _ h9 => h9) rfl (by decide +kernel) (rfl) (rfl) (Nat.le_of_ble_eq_true rfl) d_Lw_keep_7 (fun H locs hP hD hS => ?_)
  rw [wu_Lw_s2] at hP hD
  obtain ⟨lw2, hlw2, hf⟩ := op_b hf
  have hP : va_P (dC, dI) vwCl (w_Lw_ h_lw ad_lw tC lw2) H := by rw [← Option.some.inj hlw2]; exact hP
  have hD : va_D A (w_Lw_ h_lw ad_lw tC lw2) := by rw [← Option.some.inj hlw2]; exact hD
  refine lv_iconst (v := 0) hx hb d_Lw_keep_10 (by decide) ?_
  refine lv_istore_n (lv' := [(3, .int 0), (0, .ref h_lw), (1, .int p1), (2, .int p2)]) hx hb d_Lw_keep_11 rfl hl (by decide) rfl (fun ls hl => ?_)
  have lp_12 : ∀ (n : Nat) (x1 : Int32) (x2 : Int32) (x3 : Int32) (lw : MS) (Rl : Int32 × MS), l_Lw_keep_12 n x1 x2 x3 lw = some Rl → ∀ (H : Heap) (locs : List Loc), va_P (dC, dI) vwCl (w_Lw_ h_lw ad_lw tC lw) H → va_D A (w_Lw_ h_lw ad_lw tC lw) → va_S A s.heap H locs → ∀ ls : Array Slot, lv_has ls 4 [(3, .int x3), (0, .ref h_lw), (1, .int x1), (2, .int x2)] → (∀ (H : Heap) (locs : List Loc), va_P (dC, dI) vwCl (w_Lw_ h_lw ad_lw tC Rl.2) H → va_D A (w_Lw_ h_lw ad_lw tC Rl.2) → va_S A s.heap H locs → ∀ ls : Array Slot, lv_has ls 4 [(3, .int Rl.1), (0, .ref h_lw), (1, .int x1), (2, .int x2)] → W p l e rm_Lw_keep s m args below meth c H locs 0 0 Q (F0 m 47 ls [])) → W p l e rm_Lw_keep s m args below meth c H locs 0 0 Q (F0 m 12 ls []) := by
    intro n
    induction n with
    | zero => intro x1 x2 x3 lw Rl hf; cases hf
    | succ n ih_12 =>
      intro x1 x2 x3 lw Rl hf H locs hP hD hS ls hl Kk
      rw [l_Lw_keep_12] at hf
      refine lv_iload_n hx hb d_Lw_keep_12 rfl (lv_at hl 0 rfl) ?_
      refine lv_iload_n hx hb d_Lw_keep_13 rfl (lv_at hl 2 rfl) ?_
      refine lv_icmp_ge (tgt := 47) hx hb d_Lw_keep_14 (by decide) (fun c4 => ?_) (fun c4 => ?_)
      · have hf := op_t hf c4
        obtain rfl := Option.some.inj hf
        exact Kk _ _ hP hD hS _ (lv_sub hl [0, 1, 2, 3] rfl)
      · have hf := op_e hf c4
        refine lv_aload_n hx hb d_Lw_keep_17 rfl (lv_at hl 1 rfl) ?_
        refine va_get (D := (dC, dI)) (ci := 1) (v := .ref (ad_lw 6)) (C := RX1) (T := TX1) (N := 11) hx hb hts in_X1 hown hK hP 0 rfl rfl 6 (by decide) (hts _ kF_1_30) (fun _ h9 => h9) rfl d_Lw_keep_18 ?_
        refine lv_iload_n hx hb d_Lw_keep_21 rfl (lv_at hl 0 rfl) ?_
        refine lv_aload_n hx hb d_Lw_keep_22 rfl (lv_at hl 1 rfl) ?_
        refine va_get (D := (dC, dI)) (ci := 1) (v := .ref (ad_lw 4)) (C := RX1) (T := TX1) (N := 11) hx hb hts in_X1 hown hK hP 0 rfl rfl 4 (by decide) (hts _ kF_1_24) (fun _ h9 => h9) rfl d_Lw_keep_23 ?_
        refine lv_iload_n hx hb d_Lw_keep_26 rfl (lv_at hl 0 rfl) ?_
        obtain ⟨hi5, hf⟩ := op_if hf
        refine va_iald (f := lw.2.1 4) hx hb hK hP 5 0 rfl rfl (ix_in hi5) d_Lw_keep_27 ?_
        obtain ⟨hi6, hf⟩ := op_if hf
        refine va_iast (f := lw.2.1 6) hx hb hK hP hD hS 7 0 rfl rfl (ix_in hi6) d_Lw_keep_28 (fun H locs hP hD hS => ?_)
        rw [wu_Lw_a6] at hP hD
        obtain ⟨lw7, hlw7, hf⟩ := op_b hf
        have hP : va_P (dC, dI) vwCl (w_Lw_ h_lw ad_lw tC lw7) H := by rw [← Option.some.inj hlw7]; exact hP
        have hD : va_D A (w_Lw_ h_lw ad_lw tC lw7) := by rw [← Option.some.inj hlw7]; exact hD
        refine lv_aload_n hx hb d_Lw_keep_29 rfl (lv_at hl 1 rfl) ?_
        refine va_get (D := (dC, dI)) (ci := 1) (v := .ref (ad_lw 7)) (C := RX1) (T := TX1) (N := 11) hx hb hts in_X1 hown hK hP 0 rfl rfl 7 (by decide) (hts _ kF_1_33) (fun _ h9 => h9) rfl d_Lw_keep_30 ?_
        refine lv_iload_n hx hb d_Lw_keep_33 rfl (lv_at hl 0 rfl) ?_
        refine lv_aload_n hx hb d_Lw_keep_34 rfl (lv_at hl 1 rfl) ?_
        refine va_get (D := (dC, dI)) (ci := 1) (v := .ref (ad_lw 5)) (C := RX1) (T := TX1) (N := 11) hx hb hts in_X1 hown hK hP 0 rfl rfl 5 (by decide) (hts _ kF_1_27) (fun _ h9 => h9) rfl d_Lw_keep_35 ?_
        refine lv_iload_n hx hb d_Lw_keep_38 rfl (lv_at hl 0 rfl) ?_
        obtain ⟨hi8, hf⟩ := op_if hf
        refine va_iald (f := lw7.2.1 5) hx hb hK hP 6 0 rfl rfl (ix_in hi8) d_Lw_keep_39 ?_
        obtain ⟨hi9, hf⟩ := op_if hf
        refine va_iast (f := lw7.2.1 7) hx hb hK hP hD hS 8 0 rfl rfl (ix_in hi9) d_Lw_keep_40 (fun H locs hP hD hS => ?_)
        rw [wu_Lw_a7] at hP hD
        obtain ⟨lw10, hlw10, hf⟩ := op_b hf
        have hP : va_P (dC, dI) vwCl (w_Lw_ h_lw ad_lw tC lw10) H := by rw [← Option.some.inj hlw10]; exact hP
        have hD : va_D A (w_Lw_ h_lw ad_lw tC lw10) := by rw [← Option.some.inj hlw10]; exact hD
        refine lv_iinc (v := x3 + 1) (lv' := [(3, .int (x3 + 1)), (0, .ref h_lw), (1, .int x1), (2, .int x2)]) hx hb d_Lw_keep_41 hl (k := 0) rfl rfl (by decide) rfl (fun ls hl => ?_)
        refine lv_goto (tgt := 12) hx hb d_Lw_keep_44 (by decide) ?_
        exact ih_12 x1 x2 (x3 + 1) lw10 Rl hf _ _ hP hD hS _ (lv_sub hl [0, 1, 2, 3] rfl) Kk
  obtain ⟨q3, hq3, hf⟩ := op_b hf
  refine lp_12 fu p1 p2 0 lw2 q3 hq3 _ _ hP hD hS _ (lv_sub hl [0, 1, 2, 3] rfl) ?_
  intro H locs hP hD hS ls hl
  obtain rfl := Option.some.inj hf
  subst hQ
  subst hAe
  exact W.vret hx hb hr (fun t ht hW => ⟨⟨_, _, rfl, ⟨rfl, rfl⟩, by rw [ht]; exact hP, hD⟩, hS.F ht⟩) hS.2.2 d_Lw_keep_47
def l_Lw_sumSets_41 : Nat → Int32 → Int32 → Int32 → Int32 → Int32 → Int32 → MS → MS → Option (Int32 × MS)
  | 0, _, _, _, _, _, _, _, _ => none
  | n + 1, x2, x3, x4, x5, x6, x7, lw, pl => (if (2 * x5) ≤ x7 then some (x7, lw) else if ix (x7 - x5) 256 then if ix x7 256 then (some (sA lw 0 (upd (lw.2.1 0) x7.toNatClampNeg (((lw.2.1 0) (x7 - x5).toNatClampNeg) + x6)))).bind fun lw12 => l_Lw_sumSets_41 n x2 x3 x4 x5 x6 (x7 + 1) lw12 pl else none else none)
def l_Lw_sumSets_10 : Nat → Int32 → Int32 → Int32 → MS → MS → Option (Int32 × MS)
  | 0, _, _, _, _, _ => none
  | n + 1, x2, x3, x4, lw, pl => (if x3 ≤ x4 then some (x4, lw) else (some (1 <<< (x4 &&& 31)) : Option Int32).bind fun v5 => if ix (((x2 + x3) - 1) - x4) 60 then (some ((pl.2.1 1) (((x2 + x3) - 1) - x4).toNatClampNeg) : Option Int32).bind fun v7 => (l_Lw_sumSets_41 fu x2 x3 x4 v5 v7 v5 lw pl).bind fun q8 => l_Lw_sumSets_10 n x2 x3 (x4 + 1) q8.2 pl else none)
def f_Lw_sumSets (lw : MS) (pl : MS) (p2 : Int32) (p3 : Int32) : Option (Unit × MS) := if ix 0 256 then (some (sA lw 0 (upd (lw.2.1 0) (0 : Int32).toNatClampNeg 0))).bind fun lw2 => (l_Lw_sumSets_10 fu p2 p3 0 lw2 pl).bind fun q3 => some ((), q3.2) else none
def rm_Lw_sumSets : Room := { frames := 0, cells := 0, slots := 0, locals := 0 }
set_option maxHeartbeats 4000000 in
set_option maxRecDepth 100000 in
theorem m_Lw_sumSets (l : Launch) (dC : Nat → ClassId) (dI : Nat → Nat → Nat) (tC : Nat → ClassId) (h_lw : Nat) (ad_lw : Nat → Nat) (lw : MS) (h_pl : Nat) (ad_pl : Nat → Nat) (pl : MS) (p2 : Int32) (p3 : Int32) (R : Unit × MS) (hf : f_Lw_sumSets lw pl p2 p3 = some R) (sz : Nat) : Met l y_Lw_sumSets w_Lw_sumSets rm_Lw_sumSets (wrP (dC, dI) tC (w_Lw_ h_lw ad_lw tC lw ++ w_Pl_ h_pl ad_pl tC pl) sz [.ref h_lw, .ref h_pl, .int p2, .int p3]) (wrQ (dC, dI) (w_Lw_ h_lw ad_lw tC lw ++ w_Pl_ h_pl ad_pl tC pl) sz (fun r w => r = none ∧ w = (w_Lw_ h_lw ad_lw tC R.2 ++ w_Pl_ h_pl ad_pl tC pl))) 0 0 (va_A (w_Lw_ h_lw ad_lw tC lw ++ w_Pl_ h_pl ad_pl tC pl) sz) := by
  refine Met.ofW (cc := c_Lw_sumSets) (maxL := 8) (ret := none) (by decide) rfl ?_
  intro p e s m args below meth c s₁ B hml hv
  obtain ⟨hav, hsz, hP, hK, hD0⟩ := hv
  have hx := B.exec
  have hb := B.bytes
  have hr := B.returns
  have hts : ∀ w ∈ gw, w.before args s = true := fun w h => atoms_spec (ws := w_Lw_sumSets) B.pre w (List.mem_cons_of_mem _ h)
  have hown : s.vm.findClass RX1 = some m.cls := findClass_of_methodNamed B.named
  have hlocks := B.notSynchronized
  subst hsz
  have hD := hD0.self (sz := s.heap.size)
  obtain ⟨A, hAe⟩ : ∃ z, z = va_A (w_Lw_ h_lw ad_lw tC lw ++ w_Pl_ h_pl ad_pl tC pl) s.heap.size := ⟨_, rfl⟩
  rw [← hAe] at hD
  have hA : ∀ q : Nat, s.heap.size ≤ q → A q := fun q h => by rw [hAe]; exact Or.inr h
  have hS : va_S A s.heap s.heap [] := va_S.rf
  refine q_w (R := rm_Lw_sumSets) (fun Q hQ => ?_)
  refine en_w (av := [.ref h_lw, .ref h_pl, .int p2, .int p3]) hav (Nat.le_of_ble_eq_true rfl) (fun ls hl => ?_)
  have hl : lv_has ls 8 [(0, .ref h_lw), (1, .ref h_pl), (2, .int p2), (3, .int p3)] := hl
  unfold f_Lw_sumSets at hf
  refine lv_aload_n hx hb d_Lw_sumSets_0 rfl (lv_at hl 0 rfl) ?_
  refine va_get (D := (dC, dI)) (ci := 1) (v := .ref (ad_lw 0)) (C := RX1) (T := TX1) (N := 11) hx hb hts in_X1 hown hK hP 0 rfl rfl 0 (by decide) (hts _ kF_1_11) (fun _ h9 => h9) rfl d_Lw_sumSets_1 ?_
  refine lv_iconst (v := 0) hx hb d_Lw_sumSets_4 (by decide) ?_
  refine lv_iconst (v := 0) hx hb d_Lw_sumSets_5 (by decide) ?_
  obtain ⟨hi1, hf⟩ := op_if hf
  refine va_iast (f := lw.2.1 0) hx hb hK hP hD hS 1 0 rfl rfl (ix_in hi1) d_Lw_sumSets_6 (fun H locs hP hD hS => ?_)
  rw [sl_Lw_1, wu_Lw_a0] at hP hD
  obtain ⟨lw2, hlw2, hf⟩ := op_b hf
  have hP : va_P (dC, dI) vwCl (w_Lw_ h_lw ad_lw tC lw2 ++ w_Pl_ h_pl ad_pl tC pl) H := by rw [← Option.some.inj hlw2]; exact hP
  have hD : va_D A (w_Lw_ h_lw ad_lw tC lw2 ++ w_Pl_ h_pl ad_pl tC pl) := by rw [← Option.some.inj hlw2]; exact hD
  refine lv_iconst (v := 0) hx hb d_Lw_sumSets_7 (by decide) ?_
  refine lv_istore (lv' := [(4, .int 0), (0, .ref h_lw), (1, .ref h_pl), (2, .int p2), (3, .int p3)]) hx hb d_Lw_sumSets_8 hl (by decide) rfl (fun ls hl => ?_)
  have lp_10 : ∀ (n : Nat) (x2 : Int32) (x3 : Int32) (x4 : Int32) (lw : MS) (Rl : Int32 × MS), l_Lw_sumSets_10 n x2 x3 x4 lw pl = some Rl → ∀ (H : Heap) (locs : List Loc), va_P (dC, dI) vwCl (w_Lw_ h_lw ad_lw tC lw ++ w_Pl_ h_pl ad_pl tC pl) H → va_D A (w_Lw_ h_lw ad_lw tC lw ++ w_Pl_ h_pl ad_pl tC pl) → va_S A s.heap H locs → ∀ ls : Array Slot, lv_has ls 8 [(4, .int x4), (0, .ref h_lw), (1, .ref h_pl), (2, .int x2), (3, .int x3)] → (∀ (H : Heap) (locs : List Loc), va_P (dC, dI) vwCl (w_Lw_ h_lw ad_lw tC Rl.2 ++ w_Pl_ h_pl ad_pl tC pl) H → va_D A (w_Lw_ h_lw ad_lw tC Rl.2 ++ w_Pl_ h_pl ad_pl tC pl) → va_S A s.heap H locs → ∀ ls : Array Slot, lv_has ls 8 [(4, .int Rl.1), (0, .ref h_lw), (1, .ref h_pl), (2, .int x2), (3, .int x3)] → W p l e rm_Lw_sumSets s m args below meth c H locs 0 0 Q (F0 m 82 ls [])) → W p l e rm_Lw_sumSets s m args below meth c H locs 0 0 Q (F0 m 10 ls []) := by
    intro n
    induction n with
    | zero => intro x2 x3 x4 lw Rl hf; cases hf
    | succ n ih_10 =>
      intro x2 x3 x4 lw Rl hf H locs hP hD hS ls hl Kk
      rw [l_Lw_sumSets_10] at hf
      refine lv_iload hx hb d_Lw_sumSets_10 (lv_at hl 0 rfl) ?_
      refine lv_iload_n hx hb d_Lw_sumSets_12 rfl (lv_at hl 4 rfl) ?_
      refine lv_icmp_ge (tgt := 82) hx hb d_Lw_sumSets_13 (by decide) (fun c4 => ?_) (fun c4 => ?_)
      · have hf := op_t hf c4
        obtain rfl := Option.some.inj hf
        exact Kk _ _ hP hD hS _ (lv_sub hl [0, 1, 2, 3, 4] rfl)
      · have hf := op_e hf c4
        refine lv_iconst (v := 1) hx hb d_Lw_sumSets_16 (by decide) ?_
        refine lv_iload hx hb d_Lw_sumSets_17 (lv_at hl 0 rfl) ?_
        refine lv_ishl hx hb d_Lw_sumSets_19 ?_
        obtain ⟨v5, hv5, hf⟩ := op_b hf
        refine rw_i (y := v5) (Option.some.inj hv5) ?_
        refine lv_istore (lv' := [(5, .int v5), (4, .int x4), (0, .ref h_lw), (1, .ref h_pl), (2, .int x2), (3, .int x3)]) hx hb d_Lw_sumSets_20 hl (by decide) rfl (fun ls hl => ?_)
        refine lv_aload_n hx hb d_Lw_sumSets_22 rfl (lv_at hl 3 rfl) ?_
        refine va_get (D := (dC, dI)) (ci := 3) (v := .ref (ad_pl 1)) (C := RX3) (T := TX3) (N := 12) hx hb hts in_X3 hown hK hP 9 rfl rfl 1 (by decide) (hts _ kF_1_81) (fun _ h9 => h9) rfl d_Lw_sumSets_23 ?_
        refine lv_iload_n hx hb d_Lw_sumSets_26 rfl (lv_at hl 4 rfl) ?_
        refine lv_iload_n hx hb d_Lw_sumSets_27 rfl (lv_at hl 5 rfl) ?_
        refine lv_iadd hx hb d_Lw_sumSets_28 ?_
        refine lv_iconst (v := 1) hx hb d_Lw_sumSets_29 (by decide) ?_
        refine lv_isub hx hb d_Lw_sumSets_30 ?_
        refine lv_iload hx hb d_Lw_sumSets_31 (lv_at hl 1 rfl) ?_
        refine lv_isub hx hb d_Lw_sumSets_33 ?_
        obtain ⟨hi6, hf⟩ := op_if hf
        refine va_iald (f := pl.2.1 1) hx hb hK hP 11 0 rfl rfl (ix_in hi6) d_Lw_sumSets_34 ?_
        obtain ⟨v7, hv7, hf⟩ := op_b hf
        refine rw_i (y := v7) (Option.some.inj hv7) ?_
        refine lv_istore (lv' := [(6, .int v7), (5, .int v5), (4, .int x4), (0, .ref h_lw), (1, .ref h_pl), (2, .int x2), (3, .int x3)]) hx hb d_Lw_sumSets_35 hl (by decide) rfl (fun ls hl => ?_)
        refine lv_iload hx hb d_Lw_sumSets_37 (lv_at hl 1 rfl) ?_
        refine lv_istore (lv' := [(7, .int v5), (6, .int v7), (5, .int v5), (4, .int x4), (0, .ref h_lw), (1, .ref h_pl), (2, .int x2), (3, .int x3)]) hx hb d_Lw_sumSets_39 hl (by decide) rfl (fun ls hl => ?_)
        have lp_41 : ∀ (n : Nat) (x2 : Int32) (x3 : Int32) (x4 : Int32) (x5 : Int32) (x6 : Int32) (x7 : Int32) (lw : MS) (Rl : Int32 × MS), l_Lw_sumSets_41 n x2 x3 x4 x5 x6 x7 lw pl = some Rl → ∀ (H : Heap) (locs : List Loc), va_P (dC, dI) vwCl (w_Lw_ h_lw ad_lw tC lw ++ w_Pl_ h_pl ad_pl tC pl) H → va_D A (w_Lw_ h_lw ad_lw tC lw ++ w_Pl_ h_pl ad_pl tC pl) → va_S A s.heap H locs → ∀ ls : Array Slot, lv_has ls 8 [(7, .int x7), (6, .int x6), (5, .int x5), (4, .int x4), (0, .ref h_lw), (1, .ref h_pl), (2, .int x2), (3, .int x3)] → (∀ (H : Heap) (locs : List Loc), va_P (dC, dI) vwCl (w_Lw_ h_lw ad_lw tC Rl.2 ++ w_Pl_ h_pl ad_pl tC pl) H → va_D A (w_Lw_ h_lw ad_lw tC Rl.2 ++ w_Pl_ h_pl ad_pl tC pl) → va_S A s.heap H locs → ∀ ls : Array Slot, lv_has ls 8 [(7, .int Rl.1), (6, .int x6), (5, .int x5), (4, .int x4), (0, .ref h_lw), (1, .ref h_pl), (2, .int x2), (3, .int x3)] → W p l e rm_Lw_sumSets s m args below meth c H locs 0 0 Q (F0 m 76 ls [])) → W p l e rm_Lw_sumSets s m args below meth c H locs 0 0 Q (F0 m 41 ls []) := by
          intro n
          induction n with
          | zero => intro x2 x3 x4 x5 x6 x7 lw Rl hf; cases hf
          | succ n ih_41 =>
            intro x2 x3 x4 x5 x6 x7 lw Rl hf H locs hP hD hS ls hl Kk
            rw [l_Lw_sumSets_41] at hf
            refine lv_iload hx hb d_Lw_sumSets_41 (lv_at hl 0 rfl) ?_
            refine lv_iconst (v := 2) hx hb d_Lw_sumSets_43 (by decide) ?_
            refine lv_iload hx hb d_Lw_sumSets_44 (lv_at hl 2 rfl) ?_
            refine lv_imul hx hb d_Lw_sumSets_46 ?_
            refine lv_icmp_ge (tgt := 76) hx hb d_Lw_sumSets_47 (by decide) (fun c9 => ?_) (fun c9 => ?_)
            · have hf := op_t hf c9
              obtain rfl := Option.some.inj hf
              exact Kk _ _ hP hD hS _ (lv_sub hl [0, 1, 2, 3, 4, 5, 6, 7] rfl)
            · have hf := op_e hf c9
              refine lv_aload_n hx hb d_Lw_sumSets_50 rfl (lv_at hl 4 rfl) ?_
              refine va_get (D := (dC, dI)) (ci := 1) (v := .ref (ad_lw 0)) (C := RX1) (T := TX1) (N := 11) hx hb hts in_X1 hown hK hP 0 rfl rfl 0 (by decide) (hts _ kF_1_11) (fun _ h9 => h9) rfl d_Lw_sumSets_51 ?_
              refine lv_iload hx hb d_Lw_sumSets_54 (lv_at hl 0 rfl) ?_
              refine lv_aload_n hx hb d_Lw_sumSets_56 rfl (lv_at hl 4 rfl) ?_
              refine va_get (D := (dC, dI)) (ci := 1) (v := .ref (ad_lw 0)) (C := RX1) (T := TX1) (N := 11) hx hb hts in_X1 hown hK hP 0 rfl rfl 0 (by decide) (hts _ kF_1_11) (fun _ h9 => h9) rfl d_Lw_sumSets_57 ?_
              refine lv_iload hx hb d_Lw_sumSets_60 (lv_at hl 0 rfl) ?_
              refine lv_iload hx hb d_Lw_sumSets_62 (lv_at hl 2 rfl) ?_
              refine lv_isub hx hb d_Lw_sumSets_64 ?_
              obtain ⟨hi10, hf⟩ := op_if hf
              refine va_iald (f := lw.2.1 0) hx hb hK hP 1 0 rfl rfl (ix_in hi10) d_Lw_sumSets_65 ?_
              refine lv_iload hx hb d_Lw_sumSets_66 (lv_at hl 1 rfl) ?_
              refine lv_iadd hx hb d_Lw_sumSets_68 ?_
              obtain ⟨hi11, hf⟩ := op_if hf
              refine va_iast (f := lw.2.1 0) hx hb hK hP hD hS 1 0 rfl rfl (ix_in hi11) d_Lw_sumSets_69 (fun H locs hP hD hS => ?_)
              rw [sl_Lw_1, wu_Lw_a0] at hP hD
              obtain ⟨lw12, hlw12, hf⟩ := op_b hf
              have hP : va_P (dC, dI) vwCl (w_Lw_ h_lw ad_lw tC lw12 ++ w_Pl_ h_pl ad_pl tC pl) H := by rw [← Option.some.inj hlw12]; exact hP
              have hD : va_D A (w_Lw_ h_lw ad_lw tC lw12 ++ w_Pl_ h_pl ad_pl tC pl) := by rw [← Option.some.inj hlw12]; exact hD
              refine lv_iinc (v := x7 + 1) (lv' := [(7, .int (x7 + 1)), (6, .int x6), (5, .int x5), (4, .int x4), (0, .ref h_lw), (1, .ref h_pl), (2, .int x2), (3, .int x3)]) hx hb d_Lw_sumSets_70 hl (k := 0) rfl rfl (by decide) rfl (fun ls hl => ?_)
              refine lv_goto (tgt := 41) hx hb d_Lw_sumSets_73 (by decide) ?_
              exact ih_41 x2 x3 x4 x5 x6 (x7 + 1) lw12 Rl hf _ _ hP hD hS _ (lv_sub hl [0, 1, 2, 3, 4, 5, 6, 7] rfl) Kk
        obtain ⟨q8, hq8, hf⟩ := op_b hf
        refine lp_41 fu x2 x3 x4 v5 v7 v5 lw q8 hq8 _ _ hP hD hS _ (lv_sub hl [0, 1, 2, 3, 4, 5, 6, 7] rfl) ?_
        intro H locs hP hD hS ls hl
        refine lv_iinc (v := x4 + 1) (lv' := [(4, .int (x4 + 1)), (7, .int q8.1), (6, .int v7), (5, .int v5), (0, .ref h_lw), (1, .ref h_pl), (2, .int x2), (3, .int x3)]) hx hb d_Lw_sumSets_76 hl (k := 3) rfl rfl (by decide) rfl (fun ls hl => ?_)
        refine lv_goto (tgt := 10) hx hb d_Lw_sumSets_79 (by decide) ?_
        exact ih_10 x2 x3 (x4 + 1) q8.2 Rl hf _ _ hP hD hS _ (lv_sub hl [0, 4, 5, 6, 7] rfl) Kk
  obtain ⟨q3, hq3, hf⟩ := op_b hf
  refine lp_10 fu p2 p3 0 lw2 q3 hq3 _ _ hP hD hS _ (lv_sub hl [0, 1, 2, 3, 4] rfl) ?_
  intro H locs hP hD hS ls hl
  obtain rfl := Option.some.inj hf
  subst hQ
  subst hAe
  exact W.vret hx hb hr (fun t ht hW => ⟨⟨_, _, rfl, ⟨rfl, rfl⟩, by rw [ht]; exact hP, hD⟩, hS.F ht⟩) hS.2.2 d_Lw_sumSets_82
def l_Lw_writeBest_43 : Nat → Int32 → Int32 → Int32 → Int32 → Int32 → MS → MS → Option (Int32 × MS)
  | 0, _, _, _, _, _, _, _ => none
  | n + 1, x2, x3, x4, x5, x6, lw, pl => (if (pl.1 0) ≤ x6 then some (x6, pl) else if ix x4 8 then (if ((((lw.2.1 7) x4.toNatClampNeg) >>> ((((pl.1 0) - 1) - x6) &&& 31)) &&& 1) = 1 then (f_Pl_putPiece pl x6 x5).bind fun q10 => l_Lw_writeBest_43 n x2 x3 x4 x5 (x6 + 1) lw q10.2 else l_Lw_writeBest_43 n x2 x3 x4 x5 (x6 + 1) lw pl) else none)
def l_Lw_writeBest_3 : Nat → Int32 → Int32 → Int32 → MS → MS → Option (Int32 × MS)
  | 0, _, _, _, _, _ => none
  | n + 1, x2, x3, x4, lw, pl => (if (lw.1 2) ≤ x4 then some (1, pl) else if ix x4 8 then if ix ((lw.2.1 6) x4.toNatClampNeg) 3 then (f_Pl_openBar pl x3 ((lw.2.1 2) ((lw.2.1 6) x4.toNatClampNeg).toNatClampNeg)).bind fun q4 => (if q4.1 = (-2) then some (0, q4.2) else (l_Lw_writeBest_43 fu x2 x3 x4 q4.1 x2 lw q4.2).bind fun q6 => l_Lw_writeBest_3 n x2 x3 (x4 + 1) lw q6.2) else none else none)
def f_Lw_writeBest (lw : MS) (pl : MS) (p2 : Int32) (p3 : Int32) : Option (Int32 × MS) := l_Lw_writeBest_3 fu p2 p3 0 lw pl
def rm_Lw_writeBest : Room := { frames := 1, cells := 0, slots := 0, locals := 22 }
set_option maxHeartbeats 4000000 in
set_option maxRecDepth 100000 in
theorem m_Lw_writeBest (l : Launch) (dC : Nat → ClassId) (dI : Nat → Nat → Nat) (tC : Nat → ClassId) (h_lw : Nat) (ad_lw : Nat → Nat) (lw : MS) (h_pl : Nat) (ad_pl : Nat → Nat) (pl : MS) (p2 : Int32) (p3 : Int32) (R : Int32 × MS) (hf : f_Lw_writeBest lw pl p2 p3 = some R) (sz : Nat) : Met l y_Lw_writeBest w_Lw_writeBest rm_Lw_writeBest (wrP (dC, dI) tC (w_Lw_ h_lw ad_lw tC lw ++ w_Pl_ h_pl ad_pl tC pl) sz [.ref h_lw, .ref h_pl, .int p2, .int p3]) (wrQ (dC, dI) (w_Lw_ h_lw ad_lw tC lw ++ w_Pl_ h_pl ad_pl tC pl) sz (fun r w => r = (some (.int R.1)) ∧ w = (w_Lw_ h_lw ad_lw tC lw ++ w_Pl_ h_pl ad_pl tC R.2))) 0 0 (va_A (w_Lw_ h_lw ad_lw tC lw ++ w_Pl_ h_pl ad_pl tC pl) sz) := by
  refine Met.ofW (cc := c_Lw_writeBest) (maxL := 7) (ret := (some (.boolean))) (by decide) rfl ?_
  intro p e s m args below meth c s₁ B hml hv
  obtain ⟨hav, hsz, hP, hK, hD0⟩ := hv
  have hx := B.exec
  have hb := B.bytes
  have hr := B.returns
  have hts : ∀ w ∈ gw, w.before args s = true := fun w h => atoms_spec (ws := w_Lw_writeBest) B.pre w (List.mem_cons_of_mem _ h)
  have hown : s.vm.findClass RX1 = some m.cls := findClass_of_methodNamed B.named
  have hlocks := B.notSynchronized
  subst hsz
  have hD := hD0.self (sz := s.heap.size)
  obtain ⟨A, hAe⟩ : ∃ z, z = va_A (w_Lw_ h_lw ad_lw tC lw ++ w_Pl_ h_pl ad_pl tC pl) s.heap.size := ⟨_, rfl⟩
  rw [← hAe] at hD
  have hA : ∀ q : Nat, s.heap.size ≤ q → A q := fun q h => by rw [hAe]; exact Or.inr h
  have hS : va_S A s.heap s.heap [] := va_S.rf
  refine q_w (R := rm_Lw_writeBest) (fun Q hQ => ?_)
  refine en_w (av := [.ref h_lw, .ref h_pl, .int p2, .int p3]) hav (Nat.le_of_ble_eq_true rfl) (fun ls hl => ?_)
  have hl : lv_has ls 7 [(0, .ref h_lw), (1, .ref h_pl), (2, .int p2), (3, .int p3)] := hl
  unfold f_Lw_writeBest at hf
  refine lv_iconst (v := 0) hx hb d_Lw_writeBest_0 (by decide) ?_
  refine lv_istore (lv' := [(4, .int 0), (0, .ref h_lw), (1, .ref h_pl), (2, .int p2), (3, .int p3)]) hx hb d_Lw_writeBest_1 hl (by decide) rfl (fun ls hl => ?_)
  have lp_3 : ∀ (n : Nat) (x2 : Int32) (x3 : Int32) (x4 : Int32) (pl : MS), l_Lw_writeBest_3 n x2 x3 x4 lw pl = some R → ∀ (H : Heap) (locs : List Loc), va_P (dC, dI) vwCl (w_Lw_ h_lw ad_lw tC lw ++ w_Pl_ h_pl ad_pl tC pl) H → va_D A (w_Lw_ h_lw ad_lw tC lw ++ w_Pl_ h_pl ad_pl tC pl) → va_S A s.heap H locs → ∀ ls : Array Slot, lv_has ls 7 [(4, .int x4), (0, .ref h_lw), (1, .ref h_pl), (2, .int x2), (3, .int x3)] → W p l e rm_Lw_writeBest s m args below meth c H locs 0 0 Q (F0 m 3 ls []) := by
    intro n
    induction n with
    | zero => intro x2 x3 x4 pl hf; cases hf
    | succ n ih_3 =>
      intro x2 x3 x4 pl hf H locs hP hD hS ls hl
      rw [l_Lw_writeBest_3] at hf
      refine lv_iload hx hb d_Lw_writeBest_3 (lv_at hl 0 rfl) ?_
      refine lv_aload_n hx hb d_Lw_writeBest_5 rfl (lv_at hl 1 rfl) ?_
      refine va_get (D := (dC, dI)) (ci := 1) (v := .int (lw.1 2)) (C := RX1) (T := TX1) (N := 11) hx hb hts in_X1 hown hK hP 0 rfl rfl 10 (by decide) (hts _ kF_1_70) (fun _ h9 => h9) rfl d_Lw_writeBest_6 ?_
      refine lv_icmp_ge (tgt := 95) hx hb d_Lw_writeBest_9 (by decide) (fun c1 => ?_) (fun c1 => ?_)
      · have hf := op_t hf c1
        refine lv_iconst (v := 1) hx hb d_Lw_writeBest_95 (by decide) ?_
        obtain rfl := Option.some.inj hf
        subst hQ
        subst hAe
        exact W.zret (v := 1) (ty := .boolean) hx hb hr (by decide) (fun t ht hW => ⟨⟨_, _, rfl, ⟨rfl, rfl⟩, by rw [ht]; exact hP, hD⟩, hS.F ht⟩) hS.2.2 d_Lw_writeBest_96
      · have hf := op_e hf c1
        refine lv_aload_n hx hb d_Lw_writeBest_12 rfl (lv_at hl 2 rfl) ?_
        refine lv_iload_n hx hb d_Lw_writeBest_13 rfl (lv_at hl 4 rfl) ?_
        refine lv_aload_n hx hb d_Lw_writeBest_14 rfl (lv_at hl 1 rfl) ?_
        refine va_get (D := (dC, dI)) (ci := 1) (v := .ref (ad_lw 2)) (C := RX1) (T := TX1) (N := 11) hx hb hts in_X1 hown hK hP 0 rfl rfl 2 (by decide) (hts _ kF_1_18) (fun _ h9 => h9) rfl d_Lw_writeBest_15 ?_
        refine lv_aload_n hx hb d_Lw_writeBest_18 rfl (lv_at hl 1 rfl) ?_
        refine va_get (D := (dC, dI)) (ci := 1) (v := .ref (ad_lw 6)) (C := RX1) (T := TX1) (N := 11) hx hb hts in_X1 hown hK hP 0 rfl rfl 6 (by decide) (hts _ kF_1_30) (fun _ h9 => h9) rfl d_Lw_writeBest_19 ?_
        refine lv_iload hx hb d_Lw_writeBest_22 (lv_at hl 0 rfl) ?_
        obtain ⟨hi2, hf⟩ := op_if hf
        refine va_iald (f := lw.2.1 6) hx hb hK hP 7 0 rfl rfl (ix_in hi2) d_Lw_writeBest_24 ?_
        obtain ⟨hi3, hf⟩ := op_if hf
        refine va_iald (f := lw.2.1 2) hx hb hK hP 3 0 rfl rfl (ix_in hi3) d_Lw_writeBest_25 ?_
        obtain ⟨q4, hq4, hf⟩ := op_b hf
        have hPc := hP.sub (ws' := (w_Pl_ h_pl ad_pl tC pl)) [9, 10, 11, 12, 13, 14, 15, 16] rfl
        have hDc := hD.sub (ws' := (w_Pl_ h_pl ad_pl tC pl)) [9, 10, 11, 12, 13, 14, 15, 16] (by decide) rfl
        have hFc := va_free (wc := (w_Pl_ h_pl ad_pl tC pl)) hD hS hA [9, 10, 11, 12, 13, 14, 15, 16] rfl
        refine wr_go (va_runV (As := [.int x3, .int ((lw.2.1 2) ((lw.2.1 6) x4.toNatClampNeg).toNatClampNeg)]) (rest := []) ⟨hx, hb, hml, hown, hts⟩ (m_Pl_openBar l dC dI tC h_pl ad_pl pl x3 ((lw.2.1 2) ((lw.2.1 6) x4.toNatClampNeg).toNatClampNeg) q4 hq4 _) (cwV 2 hts (gd_V kM_1_107 kI_Pl_openBar kV_Pl_openBar kZ_3 kC_Pl_openBar) rfl rfl rfl (by decide +kernel) ⟨(Nat.le_of_ble_eq_true rfl), (Nat.le_of_ble_eq_true rfl)⟩) ⟨wr_blind, va_recv hK hP (ci := 3) (q0 := 9) rfl rfl, wr_pre hK hPc hDc⟩ rfl rfl hl.1 rfl (lv_room (Nat.le_of_ble_eq_true rfl)) d_Lw_writeBest_26 ⟨(Nat.le_of_ble_eq_true rfl), (Nat.le_of_ble_eq_true rfl)⟩) hS hFc (fun r w1 H1 locs hw hP1 hD1 hk1 hS => ?_)
        obtain ⟨rfl, rfl⟩ := hw
        obtain ⟨hP, hD⟩ := jn_S hP hD [9, 10, 11, 12, 13, 14, 15, 16] (wc := (w_Pl_ h_pl ad_pl tC pl)) rfl hk1 hP1 rfl
        clear hP1 hD1 hk1 hPc hDc hFc
        have hP : va_P (dC, dI) vwCl (w_Lw_ h_lw ad_lw tC lw ++ w_Pl_ h_pl ad_pl tC q4.2) _ := hP
        have hD : va_D A (w_Lw_ h_lw ad_lw tC lw ++ w_Pl_ h_pl ad_pl tC q4.2) := hD
        refine W.eq (g2 := F0 m 29 ls [.int q4.1]) rfl ?_
        refine lv_istore (lv' := [(5, .int q4.1), (4, .int x4), (0, .ref h_lw), (1, .ref h_pl), (2, .int x2), (3, .int x3)]) hx hb d_Lw_writeBest_29 hl (by decide) rfl (fun ls hl => ?_)
        refine lv_iload hx hb d_Lw_writeBest_31 (lv_at hl 0 rfl) ?_
        refine lv_bipush (v := (-2)) hx hb d_Lw_writeBest_33 (by decide) ?_
        refine lv_icmp_ne (tgt := 40) hx hb d_Lw_writeBest_35 (by decide) (fun c5 => ?_) (fun c5 => ?_)
        · have hf := op_e hf c5
          refine lv_iload_n hx hb d_Lw_writeBest_40 rfl (lv_at hl 4 rfl) ?_
          refine lv_istore (lv' := [(6, .int x2), (5, .int q4.1), (4, .int x4), (0, .ref h_lw), (1, .ref h_pl), (2, .int x2), (3, .int x3)]) hx hb d_Lw_writeBest_41 hl (by decide) rfl (fun ls hl => ?_)
          have lp_43 : ∀ (n : Nat) (x2 : Int32) (x3 : Int32) (x4 : Int32) (x5 : Int32) (x6 : Int32) (pl : MS) (Rl : Int32 × MS), l_Lw_writeBest_43 n x2 x3 x4 x5 x6 lw pl = some Rl → ∀ (H : Heap) (locs : List Loc), va_P (dC, dI) vwCl (w_Lw_ h_lw ad_lw tC lw ++ w_Pl_ h_pl ad_pl tC pl) H → va_D A (w_Lw_ h_lw ad_lw tC lw ++ w_Pl_ h_pl ad_pl tC pl) → va_S A s.heap H locs → ∀ ls : Array Slot, lv_has ls 7 [(6, .int x6), (5, .int x5), (4, .int x4), (0, .ref h_lw), (1, .ref h_pl), (2, .int x2), (3, .int x3)] → (∀ (H : Heap) (locs : List Loc), va_P (dC, dI) vwCl (w_Lw_ h_lw ad_lw tC lw ++ w_Pl_ h_pl ad_pl tC Rl.2) H → va_D A (w_Lw_ h_lw ad_lw tC lw ++ w_Pl_ h_pl ad_pl tC Rl.2) → va_S A s.heap H locs → ∀ ls : Array Slot, lv_has ls 7 [(6, .int Rl.1), (5, .int x5), (4, .int x4), (0, .ref h_lw), (1, .ref h_pl), (2, .int x2), (3, .int x3)] → W p l e rm_Lw_writeBest s m args below meth c H locs 0 0 Q (F0 m 89 ls [])) → W p l e rm_Lw_writeBest s m args below meth c H locs 0 0 Q (F0 m 43 ls []) := by
            intro n
            induction n with
            | zero => intro x2 x3 x4 x5 x6 pl Rl hf; cases hf
            | succ n ih_43 =>
              intro x2 x3 x4 x5 x6 pl Rl hf H locs hP hD hS ls hl Kk
              rw [l_Lw_writeBest_43] at hf
              refine lv_iload hx hb d_Lw_writeBest_43 (lv_at hl 0 rfl) ?_
              refine lv_aload_n hx hb d_Lw_writeBest_45 rfl (lv_at hl 4 rfl) ?_
              refine va_get (D := (dC, dI)) (ci := 3) (v := .int (pl.1 0)) (C := RX3) (T := TX3) (N := 12) hx hb hts in_X3 hown hK hP 9 rfl rfl 7 (by decide) (hts _ kF_1_36) (fun _ h9 => h9) rfl d_Lw_writeBest_46 ?_
              refine lv_icmp_ge (tgt := 89) hx hb d_Lw_writeBest_49 (by decide) (fun c7 => ?_) (fun c7 => ?_)
              · have hf := op_t hf c7
                obtain rfl := Option.some.inj hf
                exact Kk _ _ hP hD hS _ (lv_sub hl [0, 1, 2, 3, 4, 5, 6] rfl)
              · have hf := op_e hf c7
                refine lv_aload_n hx hb d_Lw_writeBest_52 rfl (lv_at hl 3 rfl) ?_
                refine va_get (D := (dC, dI)) (ci := 1) (v := .ref (ad_lw 7)) (C := RX1) (T := TX1) (N := 11) hx hb hts in_X1 hown hK hP 0 rfl rfl 7 (by decide) (hts _ kF_1_33) (fun _ h9 => h9) rfl d_Lw_writeBest_53 ?_
                refine lv_iload hx hb d_Lw_writeBest_56 (lv_at hl 2 rfl) ?_
                obtain ⟨hi8, hf⟩ := op_if hf
                refine va_iald (f := lw.2.1 7) hx hb hK hP 8 0 rfl rfl (ix_in hi8) d_Lw_writeBest_58 ?_
                refine lv_aload_n hx hb d_Lw_writeBest_59 rfl (lv_at hl 4 rfl) ?_
                refine va_get (D := (dC, dI)) (ci := 3) (v := .int (pl.1 0)) (C := RX3) (T := TX3) (N := 12) hx hb hts in_X3 hown hK hP 9 rfl rfl 7 (by decide) (hts _ kF_1_36) (fun _ h9 => h9) rfl d_Lw_writeBest_60 ?_
                refine lv_iconst (v := 1) hx hb d_Lw_writeBest_63 (by decide) ?_
                refine lv_isub hx hb d_Lw_writeBest_64 ?_
                refine lv_iload hx hb d_Lw_writeBest_65 (lv_at hl 0 rfl) ?_
                refine lv_isub hx hb d_Lw_writeBest_67 ?_
                refine lv_ishr hx hb d_Lw_writeBest_68 ?_
                refine lv_iconst (v := 1) hx hb d_Lw_writeBest_69 (by decide) ?_
                refine lv_iand hx hb d_Lw_writeBest_70 ?_
                refine lv_iconst (v := 1) hx hb d_Lw_writeBest_71 (by decide) ?_
                refine lv_icmp_ne (tgt := 83) hx hb d_Lw_writeBest_72 (by decide) (fun c9 => ?_) (fun c9 => ?_)
                · have hf := op_e hf c9
                  refine lv_iinc (v := x6 + 1) (lv' := [(6, .int (x6 + 1)), (5, .int x5), (4, .int x4), (0, .ref h_lw), (1, .ref h_pl), (2, .int x2), (3, .int x3)]) hx hb d_Lw_writeBest_83 hl (k := 0) rfl rfl (by decide) rfl (fun ls hl => ?_)
                  refine lv_goto (tgt := 43) hx hb d_Lw_writeBest_86 (by decide) ?_
                  exact ih_43 x2 x3 x4 x5 (x6 + 1) pl Rl hf _ _ hP hD hS _ (lv_sub hl [0, 1, 2, 3, 4, 5, 6] rfl) Kk
                · have hf := op_t hf c9
                  refine lv_aload_n hx hb d_Lw_writeBest_75 rfl (lv_at hl 4 rfl) ?_
                  refine lv_iload hx hb d_Lw_writeBest_76 (lv_at hl 0 rfl) ?_
                  refine lv_iload hx hb d_Lw_writeBest_78 (lv_at hl 1 rfl) ?_
                  obtain ⟨q10, hq10, hf⟩ := op_b hf
                  have hPc := hP.sub (ws' := (w_Pl_ h_pl ad_pl tC pl)) [9, 10, 11, 12, 13, 14, 15, 16] rfl
                  have hDc := hD.sub (ws' := (w_Pl_ h_pl ad_pl tC pl)) [9, 10, 11, 12, 13, 14, 15, 16] (by decide) rfl
                  have hFc := va_free (wc := (w_Pl_ h_pl ad_pl tC pl)) hD hS hA [9, 10, 11, 12, 13, 14, 15, 16] rfl
                  refine wr_go (va_runV (As := [.int x6, .int x5]) (rest := []) ⟨hx, hb, hml, hown, hts⟩ (m_Pl_putPiece l dC dI tC h_pl ad_pl pl x6 x5 q10 hq10 _) (cwV 2 hts (gd_V kM_1_110 kI_Pl_putPiece kV_Pl_putPiece kZ_3 kC_Pl_putPiece) rfl rfl rfl (by decide +kernel) ⟨(Nat.le_of_ble_eq_true rfl), (Nat.le_of_ble_eq_true rfl)⟩) ⟨wr_blind, va_recv hK hP (ci := 3) (q0 := 9) rfl rfl, wr_pre hK hPc hDc⟩ rfl rfl hl.1 rfl (lv_room (Nat.le_of_ble_eq_true rfl)) d_Lw_writeBest_80 ⟨(Nat.le_of_ble_eq_true rfl), (Nat.le_of_ble_eq_true rfl)⟩) hS hFc (fun r w1 H1 locs hw hP1 hD1 hk1 hS => ?_)
                  obtain ⟨rfl, rfl⟩ := hw
                  obtain ⟨hP, hD⟩ := jn_S hP hD [9, 10, 11, 12, 13, 14, 15, 16] (wc := (w_Pl_ h_pl ad_pl tC pl)) rfl hk1 hP1 rfl
                  clear hP1 hD1 hk1 hPc hDc hFc
                  have hP : va_P (dC, dI) vwCl (w_Lw_ h_lw ad_lw tC lw ++ w_Pl_ h_pl ad_pl tC q10.2) _ := hP
                  have hD : va_D A (w_Lw_ h_lw ad_lw tC lw ++ w_Pl_ h_pl ad_pl tC q10.2) := hD
                  refine W.eq (g2 := F0 m 83 ls []) rfl ?_
                  refine lv_iinc (v := x6 + 1) (lv' := [(6, .int (x6 + 1)), (5, .int x5), (4, .int x4), (0, .ref h_lw), (1, .ref h_pl), (2, .int x2), (3, .int x3)]) hx hb d_Lw_writeBest_83 hl (k := 0) rfl rfl (by decide) rfl (fun ls hl => ?_)
                  refine lv_goto (tgt := 43) hx hb d_Lw_writeBest_86 (by decide) ?_
                  exact ih_43 x2 x3 x4 x5 (x6 + 1) q10.2 Rl hf _ _ hP hD hS _ (lv_sub hl [0, 1, 2, 3, 4, 5, 6] rfl) Kk
          obtain ⟨q6, hq6, hf⟩ := op_b hf
          refine lp_43 fu x2 x3 x4 q4.1 x2 q4.2 q6 hq6 _ _ hP hD hS _ (lv_sub hl [0, 1, 2, 3, 4, 5, 6] rfl) ?_
          intro H locs hP hD hS ls hl
          refine lv_iinc (v := x4 + 1) (lv' := [(4, .int (x4 + 1)), (6, .int q6.1), (5, .int q4.1), (0, .ref h_lw), (1, .ref h_pl), (2, .int x2), (3, .int x3)]) hx hb d_Lw_writeBest_89 hl (k := 2) rfl rfl (by decide) rfl (fun ls hl => ?_)
          refine lv_goto (tgt := 3) hx hb d_Lw_writeBest_92 (by decide) ?_
          exact ih_3 x2 x3 (x4 + 1) q6.2 hf _ _ hP hD hS _ (lv_sub hl [0, 3, 4, 5, 6] rfl)
        · have hf := op_t hf c5
          refine lv_iconst (v := 0) hx hb d_Lw_writeBest_38 (by decide) ?_
          obtain rfl := Option.some.inj hf
          subst hQ
          subst hAe
          exact W.zret (v := 0) (ty := .boolean) hx hb hr (by decide) (fun t ht hW => ⟨⟨_, _, rfl, ⟨rfl, rfl⟩, by rw [ht]; exact hP, hD⟩, hS.F ht⟩) hS.2.2 d_Lw_writeBest_39
  exact lp_3 fu p2 p3 0 pl hf _ _ hP hD hS _ (lv_sub hl [0, 1, 2, 3, 4] rfl)
