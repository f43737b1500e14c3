def l_Md_cutBest_322 : Nat → Int32 → Int32 → Int64 → Int32 → Int64 → Int32 → Int32 → Int32 → Int32 → Int64 → Int32 → Int32 → MS → Option (Int32 × MS)
  | 0, _, _, _, _, _, _, _, _, _, _, _, _, _ => none
  | n + 1, x1, x2, x3, x5, x6, x8, x9, x10, x11, x12, x14, x15, md => (if x5 < x15 then some (x15, md) else if ix x15 9 then if ix x15 9 then (some (sA md 14 (upd (md.2.1 14) x15.toNatClampNeg ((md.2.1 12) x15.toNatClampNeg)))).bind fun md57 => if ix x15 9 then if ix x15 9 then (some (sA md57 15 (upd (md57.2.1 15) x15.toNatClampNeg ((md57.2.1 13) x15.toNatClampNeg)))).bind fun md60 => l_Md_cutBest_322 n x1 x2 x3 x5 x6 x8 x9 x10 x11 x12 x14 (x15 + 1) md60 else none else none else none else none)
def l_Md_cutBest_47 : Nat → Int32 → Int32 → Int64 → Int32 → Int64 → MS → Option (Int32 × Int64 × Int32 × Int64 × MS)
  | 0, _, _, _, _, _, _ => none
  | n + 1, x1, x2, x3, x5, x6, md => (if x5 < 0 then some (x2, x3, x5, x6, md) else if ix x5 9 then (some ((md.2.1 12) x5.toNatClampNeg) : Option Int32).bind fun v11 => if ix x1 41 then (if v11 = ((md.2.1 7) x1.toNatClampNeg) then (if (x5 + (-1)) < 0 then l_Md_cutBest_47 n x1 x2 x3 (x5 + (-1)) x6 md else if ix (x5 + (-1)) 9 then if ix ((md.2.1 12) (x5 + (-1)).toNatClampNeg) 3 then if ix ((md.2.1 12) (x5 + (-1)).toNatClampNeg) 3 then (some (sA md 9 (upd (md.2.1 9) ((md.2.1 12) (x5 + (-1)).toNatClampNeg).toNatClampNeg (((md.2.1 9) ((md.2.1 12) (x5 + (-1)).toNatClampNeg).toNatClampNeg) + 1)))).bind fun md18 => if ix (x5 + (-1)) 9 then if ix ((3 * x1) + ((md18.2.1 12) (x5 + (-1)).toNatClampNeg)) 123 then (some (x6 - ((md18.2.2 5) ((3 * x1) + ((md18.2.1 12) (x5 + (-1)).toNatClampNeg)).toNatClampNeg)) : Option Int64).bind fun v21 => l_Md_cutBest_47 n x1 x2 x3 (x5 + (-1)) v21 md18 else none else none else none else none else none) else if ix x5 9 then (some ((md.2.1 11) x5.toNatClampNeg) : Option Int32).bind fun v23 => (f_Md_firstOf md v23).bind fun q24 => if ix x5 9 then ((if ((md.2.1 13) x5.toNatClampNeg) ≤ v23 then if ix x5 9 then some ((((md.2.1 13) x5.toNatClampNeg) - 1) &&& v23) else none else some (v23)) : Option (Int32)).bind fun q27 => (if (q27 &&& q24) = 0 then if ix x5 9 then if ix x5 9 then (some (sA md 12 (upd (md.2.1 12) x5.toNatClampNeg (((md.2.1 12) x5.toNatClampNeg) + 1)))).bind fun md32 => if ix x5 9 then (some (sA md32 13 (upd (md32.2.1 13) x5.toNatClampNeg (v23 + 1)))).bind fun md34 => l_Md_cutBest_47 n x1 x2 x3 x5 x6 md34 else none else none else none else if ix x5 9 then (some (sA md 13 (upd (md.2.1 13) x5.toNatClampNeg q27))).bind fun md36 => if ix ((3 * x1) + v11) 123 then (some ((md36.2.2 5) ((3 * x1) + v11).toNatClampNeg) : Option Int64).bind fun v38 => ((if x3 < 0 then some (0) else (if x3 < (x6 + v38) then some (1) else (if (x6 + v38) = x3 then (if q27 = v23 then (if (x5 + 1) < x2 then some (0) else some (1)) else some (1)) else some (0)))) : Option (Int32)).bind fun q40 => if ix v11 3 then (if ((md36.2.1 9) v11.toNatClampNeg) = 0 then l_Md_cutBest_47 n x1 x2 x3 x5 x6 md36 else (if q40 = 0 then (f_Md_lengthOfSet md36 q27).bind fun q48 => (if q48 ≤ v38 then (if q27 = v23 then (some (x6 + v38) : Option Int64).bind fun v51 => (some (x5 + 1) : Option Int32).bind fun v52 => (l_Md_cutBest_322 fu x1 v52 v51 x5 x6 v11 v23 q24 q27 v38 q40 0 md36).bind fun q53 => l_Md_cutBest_47 n x1 v52 v51 x5 x6 q53.2 else if ix v11 3 then if ix v11 3 then (some (sA md36 9 (upd (md36.2.1 9) v11.toNatClampNeg (((md36.2.1 9) v11.toNatClampNeg) - 1)))).bind fun md63 => (some (x6 + v38) : Option Int64).bind fun v64 => if ix (x5 + 1) 9 then (some (sA md63 11 (upd (md63.2.1 11) (x5 + 1).toNatClampNeg (v23 &&& (q27 ^^^ (-1)))))).bind fun md66 => if ix (x5 + 1) 9 then (some (sA md66 12 (upd (md66.2.1 12) (x5 + 1).toNatClampNeg 0))).bind fun md68 => if ix (x5 + 1) 9 then if ix (x5 + 1) 9 then (some (sA md68 13 (upd (md68.2.1 13) (x5 + 1).toNatClampNeg (((md68.2.1 11) (x5 + 1).toNatClampNeg) + 1)))).bind fun md71 => l_Md_cutBest_47 n x1 x2 x3 (x5 + 1) v64 md71 else none else none else none else none else none else none) else l_Md_cutBest_47 n x1 x2 x3 x5 x6 md36) else l_Md_cutBest_47 n x1 x2 x3 x5 x6 md36)) else none else none else none) else none else none) else none else none)
def l_Md_cutBest_452 : Nat → Int32 → Int32 → Int64 → Int32 → Int64 → Int32 → Int32 → MS → Option (Int32 × MS)
  | 0, _, _, _, _, _, _, _, _ => none
  | n + 1, x1, x2, x3, x5, x6, x8, x9, md => (if (md.1 3) ≤ x9 then some (x9, md) else if ix x8 9 then (if ((((md.2.1 15) x8.toNatClampNeg) >>> ((((md.1 3) - 1) - x9) &&& 31)) &&& 1) = 1 then (f_Md_put md ((md.1 5) - 1) x9).bind fun q80 => l_Md_cutBest_452 n x1 x2 x3 x5 x6 x8 (x9 + 1) q80.2 else l_Md_cutBest_452 n x1 x2 x3 x5 x6 x8 (x9 + 1) md) else none)
def l_Md_cutBest_431 : Nat → Int32 → Int32 → Int64 → Int32 → Int64 → Int32 → MS → Option (Int32 × MS)
  | 0, _, _, _, _, _, _, _ => none
  | n + 1, x1, x2, x3, x5, x6, x8, md => (if x2 ≤ x8 then some (x8, md) else if ix x8 9 then (f_Md_openBar md x1 ((md.2.1 14) x8.toNatClampNeg)).bind fun q75 => (l_Md_cutBest_452 fu x1 x2 x3 x5 x6 x8 0 q75.2).bind fun q76 => l_Md_cutBest_431 n x1 x2 x3 x5 x6 (x8 + 1) q76.2 else none)
def f_Md_cutBest (md : MS) (p1 : Int32) : Option (Int32 × MS) := if ix 0 9 then (some (sA md 11 (upd (md.2.1 11) (0 : Int32).toNatClampNeg ((1 <<< ((md.1 3) &&& 31)) - 1)))).bind fun md2 => if ix 0 9 then (some (sA md2 12 (upd (md2.2.1 12) (0 : Int32).toNatClampNeg 0))).bind fun md4 => if ix 0 9 then if ix 0 9 then (some (sA md4 13 (upd (md4.2.1 13) (0 : Int32).toNatClampNeg (((md4.2.1 11) (0 : Int32).toNatClampNeg) + 1)))).bind fun md7 => (l_Md_cutBest_47 fu p1 0 (-1) 0 0 md7).bind fun q8 => (l_Md_cutBest_431 fu p1 q8.1 q8.2.1 q8.2.2.1 q8.2.2.2.1 0 q8.2.2.2.2).bind fun q72 => (if q8.2.1 < 0 then some (0, q72.2) else some (1, q72.2)) else none else none else none else none
def rm_Md_cutBest : Room := { frames := 1, cells := 0, slots := 0, locals := 24 }
set_option maxHeartbeats 4000000 in
set_option maxRecDepth 100000 in
theorem m_Md_cutBest (l : Launch) (dC : Nat → ClassId) (dI : Nat → Nat → Nat) (tC : Nat → ClassId) (h_md : Nat) (ad_md : Nat → Nat) (md : MS) (p1 : Int32) (R : Int32 × MS) (hf : f_Md_cutBest md p1 = some R) (sz : Nat) : Met l y_Md_cutBest w_Md_cutBest rm_Md_cutBest (wrP (dC, dI) tC (w_Md_ h_md ad_md tC md) sz [.ref h_md, .int p1]) (wrQ (dC, dI) (w_Md_ h_md ad_md tC md) sz (fun r w => r = (some (.int R.1)) ∧ w = (w_Md_ h_md ad_md tC R.2))) 0 0 (va_A (w_Md_ h_md ad_md tC md) sz) := by
  refine Met.ofW (cc := c_Md_cutBest) (maxL := 16) (ret := (some (.boolean))) (by decide) rfl ?_
  intro p e s m args below meth c s₁ B hml hv
  obtain ⟨hav, hsz, hP, hK, hD0⟩ := hv
  have hx := B.exec
  have hb := B.bytes
  have hr := B.returns
  have hts : ∀ w ∈ gw, w.before args s = true := fun w h => atoms_spec (ws := w_Md_cutBest) B.pre w (List.mem_cons_of_mem _ h)
  have hown : s.vm.findClass RX9 = some m.cls := findClass_of_methodNamed B.named
  have hlocks := B.notSynchronized
  subst hsz
  have hD := hD0.self (sz := s.heap.size)
  obtain ⟨A, hAe⟩ : ∃ z, z = va_A (w_Md_ h_md ad_md tC md) s.heap.size := ⟨_, rfl⟩
  rw [← hAe] at hD
  have hA : ∀ q : Nat, s.heap.size ≤ q → A q := fun q h => by rw [hAe]; exact Or.inr h
  have hS : va_S A s.heap s.heap [] := va_S.rf
  refine q_w (R := rm_Md_cutBest) (fun Q hQ => ?_)
  refine en_w (av := [.ref h_md, .int p1]) hav (Nat.le_of_ble_eq_true rfl) (fun ls hl => ?_)
  have hl : lv_has ls 16 [(0, .ref h_md), (1, .int p1)] := hl
  unfold f_Md_cutBest at hf
  refine lv_iconst (v := 0) hx hb d_Md_cutBest_0 (by decide) ?_
  refine lv_istore_n (lv' := [(2, .int 0), (0, .ref h_md), (1, .int p1)]) hx hb d_Md_cutBest_1 rfl hl (by decide) rfl (fun ls hl => ?_)
  refine lv_ldc2 (v := (-1)) hx hb hown (hts _ kK_9_170) d_Md_cutBest_2 ?_
  refine lv_lstore_n (lv' := [(3, .long (-1)), (2, .int 0), (0, .ref h_md), (1, .int p1)]) hx hb d_Md_cutBest_5 rfl hl (by decide) rfl (fun ls hl => ?_)
  refine lv_iconst (v := 0) hx hb d_Md_cutBest_6 (by decide) ?_
  refine lv_istore (lv' := [(5, .int 0), (3, .long (-1)), (2, .int 0), (0, .ref h_md), (1, .int p1)]) hx hb d_Md_cutBest_7 hl (by decide) rfl (fun ls hl => ?_)
  refine lv_lconst (v := 0) hx hb d_Md_cutBest_9 (by decide) ?_
  refine lv_lstore (lv' := [(6, .long 0), (5, .int 0), (3, .long (-1)), (2, .int 0), (0, .ref h_md), (1, .int p1)]) hx hb d_Md_cutBest_10 hl (by decide) rfl (fun ls hl => ?_)
  refine lv_aload_n hx hb d_Md_cutBest_12 rfl (lv_at hl 4 rfl) ?_
  refine va_get (D := (dC, dI)) (ci := 9) (v := .ref (ad_md 18)) (C := RX9) (T := TX9) (N := 46) hx hb hts in_X9 hown hK hP 0 rfl rfl 22 (by decide) (hts _ kF_9_66) (fun _ h9 => h9) rfl d_Md_cutBest_13 ?_
  refine lv_iconst (v := 0) hx hb d_Md_cutBest_16 (by decide) ?_
  refine lv_iconst (v := 1) hx hb d_Md_cutBest_17 (by decide) ?_
  refine lv_aload_n hx hb d_Md_cutBest_18 rfl (lv_at hl 4 rfl) ?_
  refine va_get (D := (dC, dI)) (ci := 9) (v := .int (md.1 3)) (C := RX9) (T := TX9) (N := 46) hx hb hts in_X9 hown hK hP 0 rfl rfl 19 (by decide) (hts _ kF_9_175) (fun _ h9 => h9) rfl d_Md_cutBest_19 ?_
  refine lv_ishl hx hb d_Md_cutBest_22 ?_
  refine lv_iconst (v := 1) hx hb d_Md_cutBest_23 (by decide) ?_
  refine lv_isub hx hb d_Md_cutBest_24 ?_
  obtain ⟨hi1, hf⟩ := op_if hf
  refine va_iast (f := md.2.1 11) hx hb hK hP hD hS 19 0 rfl rfl (ix_in hi1) d_Md_cutBest_25 (fun H locs hP hD hS => ?_)
  rw [wu_Md_a11] at hP hD
  obtain ⟨md2, hmd2, hf⟩ := op_b hf
  have hP : va_P (dC, dI) vwCl (w_Md_ h_md ad_md tC md2) H := by rw [← Option.some.inj hmd2]; exact hP
  have hD : va_D A (w_Md_ h_md ad_md tC md2) := by rw [← Option.some.inj hmd2]; exact hD
  refine lv_aload_n hx hb d_Md_cutBest_26 rfl (lv_at hl 4 rfl) ?_
  refine va_get (D := (dC, dI)) (ci := 9) (v := .ref (ad_md 19)) (C := RX9) (T := TX9) (N := 46) hx hb hts in_X9 hown hK hP 0 rfl rfl 23 (by decide) (hts _ kF_9_69) (fun _ h9 => h9) rfl d_Md_cutBest_27 ?_
  refine lv_iconst (v := 0) hx hb d_Md_cutBest_30 (by decide) ?_
  refine lv_iconst (v := 0) hx hb d_Md_cutBest_31 (by decide) ?_
  obtain ⟨hi3, hf⟩ := op_if hf
  refine va_iast (f := md2.2.1 12) hx hb hK hP hD hS 20 0 rfl rfl (ix_in hi3) d_Md_cutBest_32 (fun H locs hP hD hS => ?_)
  rw [wu_Md_a12] at hP hD
  obtain ⟨md4, hmd4, hf⟩ := op_b hf
  have hP : va_P (dC, dI) vwCl (w_Md_ h_md ad_md tC md4) H := by rw [← Option.some.inj hmd4]; exact hP
  have hD : va_D A (w_Md_ h_md ad_md tC md4) := by rw [← Option.some.inj hmd4]; exact hD
  refine lv_aload_n hx hb d_Md_cutBest_33 rfl (lv_at hl 4 rfl) ?_
  refine va_get (D := (dC, dI)) (ci := 9) (v := .ref (ad_md 20)) (C := RX9) (T := TX9) (N := 46) hx hb hts in_X9 hown hK hP 0 rfl rfl 24 (by decide) (hts _ kF_9_72) (fun _ h9 => h9) rfl d_Md_cutBest_34 ?_
  refine lv_iconst (v := 0) hx hb d_Md_cutBest_37 (by decide) ?_
  refine lv_aload_n hx hb d_Md_cutBest_38 rfl (lv_at hl 4 rfl) ?_
  refine va_get (D := (dC, dI)) (ci := 9) (v := .ref (ad_md 18)) (C := RX9) (T := TX9) (N := 46) hx hb hts in_X9 hown hK hP 0 rfl rfl 22 (by decide) (hts _ kF_9_66) (fun _ h9 => h9) rfl d_Md_cutBest_39 ?_
  refine lv_iconst (v := 0) hx hb d_Md_cutBest_42 (by decide) ?_
  obtain ⟨hi5, hf⟩ := op_if hf
  refine va_iald (f := md4.2.1 11) hx hb hK hP 19 0 rfl rfl (ix_in hi5) d_Md_cutBest_43 ?_
  refine lv_iconst (v := 1) hx hb d_Md_cutBest_44 (by decide) ?_
  refine lv_iadd hx hb d_Md_cutBest_45 ?_
  obtain ⟨hi6, hf⟩ := op_if hf
  refine va_iast (f := md4.2.1 13) hx hb hK hP hD hS 21 0 rfl rfl (ix_in hi6) d_Md_cutBest_46 (fun H locs hP hD hS => ?_)
  rw [wu_Md_a13] at hP hD
  obtain ⟨md7, hmd7, hf⟩ := op_b hf
  have hP : va_P (dC, dI) vwCl (w_Md_ h_md ad_md tC md7) H := by rw [← Option.some.inj hmd7]; exact hP
  have hD : va_D A (w_Md_ h_md ad_md tC md7) := by rw [← Option.some.inj hmd7]; exact hD
  have lp_47 : ∀ (n : Nat) (x1 : Int32) (x2 : Int32) (x3 : Int64) (x5 : Int32) (x6 : Int64) (md : MS) (Rl : Int32 × Int64 × Int32 × Int64 × MS), l_Md_cutBest_47 n x1 x2 x3 x5 x6 md = some Rl → ∀ (H : Heap) (locs : List Loc), va_P (dC, dI) vwCl (w_Md_ h_md ad_md tC md) H → va_D A (w_Md_ h_md ad_md tC md) → va_S A s.heap H locs → ∀ ls : Array Slot, lv_has ls 16 [(6, .long x6), (5, .int x5), (3, .long x3), (2, .int x2), (0, .ref h_md), (1, .int x1)] → (∀ (H : Heap) (locs : List Loc), va_P (dC, dI) vwCl (w_Md_ h_md ad_md tC Rl.2.2.2.2) H → va_D A (w_Md_ h_md ad_md tC Rl.2.2.2.2) → va_S A s.heap H locs → ∀ ls : Array Slot, lv_has ls 16 [(6, .long Rl.2.2.2.1), (5, .int Rl.2.2.1), (3, .long Rl.2.1), (2, .int Rl.1), (0, .ref h_md), (1, .int x1)] → W p l e rm_Md_cutBest s m args below meth c H locs 0 0 Q (F0 m 428 ls [])) → W p l e rm_Md_cutBest s m args below meth c H locs 0 0 Q (F0 m 47 ls []) := by
    intro n
    induction n with
    | zero => intro x1 x2 x3 x5 x6 md Rl hf; cases hf
    | succ n ih_47 =>
      intro x1 x2 x3 x5 x6 md Rl hf H locs hP hD hS ls hl Kk
      rw [l_Md_cutBest_47] at hf
      refine lv_iload hx hb d_Md_cutBest_47 (lv_at hl 1 rfl) ?_
      refine lv_if_lt (tgt := 428) hx hb d_Md_cutBest_49 (by decide) (fun c9 => ?_) (fun c9 => ?_)
      · have hf := op_t hf c9
        obtain rfl := Option.some.inj hf
        exact Kk _ _ hP hD hS _ (lv_sub hl [0, 1, 2, 3, 4, 5] rfl)
      · have hf := op_e hf c9
        refine lv_aload_n hx hb d_Md_cutBest_52 rfl (lv_at hl 4 rfl) ?_
        refine va_get (D := (dC, dI)) (ci := 9) (v := .ref (ad_md 19)) (C := RX9) (T := TX9) (N := 46) hx hb hts in_X9 hown hK hP 0 rfl rfl 23 (by decide) (hts _ kF_9_69) (fun _ h9 => h9) rfl d_Md_cutBest_53 ?_
        refine lv_iload hx hb d_Md_cutBest_56 (lv_at hl 1 rfl) ?_
        obtain ⟨hi10, hf⟩ := op_if hf
        refine va_iald (f := md.2.1 12) hx hb hK hP 20 0 rfl rfl (ix_in hi10) d_Md_cutBest_58 ?_
        obtain ⟨v11, hv11, hf⟩ := op_b hf
        refine rw_i (y := v11) (Option.some.inj hv11) ?_
        refine lv_istore (lv' := [(8, .int v11), (6, .long x6), (5, .int x5), (3, .long x3), (2, .int x2), (0, .ref h_md), (1, .int x1)]) hx hb d_Md_cutBest_59 hl (by decide) rfl (fun ls hl => ?_)
        refine lv_iload hx hb d_Md_cutBest_61 (lv_at hl 0 rfl) ?_
        refine lv_aload_n hx hb d_Md_cutBest_63 rfl (lv_at hl 5 rfl) ?_
        refine va_get (D := (dC, dI)) (ci := 9) (v := .ref (ad_md 12)) (C := RX9) (T := TX9) (N := 46) hx hb hts in_X9 hown hK hP 0 rfl rfl 15 (by decide) (hts _ kF_9_48) (fun _ h9 => h9) rfl d_Md_cutBest_64 ?_
        refine lv_iload_n hx hb d_Md_cutBest_67 rfl (lv_at hl 6 rfl) ?_
        obtain ⟨hi12, hf⟩ := op_if hf
        refine va_iald (f := md.2.1 7) hx hb hK hP 13 0 rfl rfl (ix_in hi12) d_Md_cutBest_68 ?_
        refine lv_icmp_ne (tgt := 120) hx hb d_Md_cutBest_69 (by decide) (fun c13 => ?_) (fun c13 => ?_)
        · have hf := op_e hf c13
          refine lv_aload_n hx hb d_Md_cutBest_120 rfl (lv_at hl 5 rfl) ?_
          refine va_get (D := (dC, dI)) (ci := 9) (v := .ref (ad_md 18)) (C := RX9) (T := TX9) (N := 46) hx hb hts in_X9 hown hK hP 0 rfl rfl 22 (by decide) (hts _ kF_9_66) (fun _ h9 => h9) rfl d_Md_cutBest_121 ?_
          refine lv_iload hx hb d_Md_cutBest_124 (lv_at hl 2 rfl) ?_
          obtain ⟨hi22, hf⟩ := op_if hf
          refine va_iald (f := md.2.1 11) hx hb hK hP 19 0 rfl rfl (ix_in hi22) d_Md_cutBest_126 ?_
          obtain ⟨v23, hv23, hf⟩ := op_b hf
          refine rw_i (y := v23) (Option.some.inj hv23) ?_
          refine lv_istore (lv' := [(9, .int v23), (8, .int v11), (6, .long x6), (5, .int x5), (3, .long x3), (2, .int x2), (0, .ref h_md), (1, .int x1)]) hx hb d_Md_cutBest_127 hl (by decide) rfl (fun ls hl => ?_)
          refine lv_aload_n hx hb d_Md_cutBest_129 rfl (lv_at hl 6 rfl) ?_
          refine lv_iload hx hb d_Md_cutBest_130 (lv_at hl 0 rfl) ?_
          obtain ⟨q24, hq24, hf⟩ := op_b hf
          refine ro_go rfl (va_runV (As := [.int v23]) (rest := []) ⟨hx, hb, hml, hown, hts⟩ (m_Md_firstOf l dC dI tC h_md ad_md md v23 q24 _ hP hq24) (cwV 1 hts (gd_V kM_9_192 kI_Md_firstOf kV_Md_firstOf kZ_9 kC_Md_firstOf) rfl rfl rfl (by decide +kernel) ⟨(Nat.le_of_ble_eq_true rfl), (Nat.le_of_ble_eq_true rfl)⟩) ⟨ro_blind, va_recv hK hP (ci := 9) (q0 := 0) rfl rfl, ro_pre hK⟩ rfl rfl hl.1 rfl (lv_room (Nat.le_of_ble_eq_true rfl)) d_Md_cutBest_132 ⟨(Nat.le_of_ble_eq_true rfl), (Nat.le_of_ble_eq_true rfl)⟩) ?_
          refine W.eq (g2 := F0 m 135 ls [.int q24]) rfl ?_
          refine lv_istore (lv' := [(10, .int q24), (9, .int v23), (8, .int v11), (6, .long x6), (5, .int x5), (3, .long x3), (2, .int x2), (0, .ref h_md), (1, .int x1)]) hx hb d_Md_cutBest_135 hl (by decide) rfl (fun ls hl => ?_)
          refine lv_aload_n hx hb d_Md_cutBest_137 rfl (lv_at hl 7 rfl) ?_
          refine va_get (D := (dC, dI)) (ci := 9) (v := .ref (ad_md 20)) (C := RX9) (T := TX9) (N := 46) hx hb hts in_X9 hown hK hP 0 rfl rfl 24 (by decide) (hts _ kF_9_72) (fun _ h9 => h9) rfl d_Md_cutBest_138 ?_
          refine lv_iload hx hb d_Md_cutBest_141 (lv_at hl 4 rfl) ?_
          obtain ⟨hi25, hf⟩ := op_if hf
          refine va_iald (f := md.2.1 13) hx hb hK hP 21 0 rfl rfl (ix_in hi25) d_Md_cutBest_143 ?_
          refine lv_iload hx hb d_Md_cutBest_144 (lv_at hl 1 rfl) ?_
          obtain ⟨q27, hq27, hf⟩ := op_b hf
          have J_146 : ∀ (H : Heap) (locs : List Loc), va_P (dC, dI) vwCl (w_Md_ h_md ad_md tC md) H → va_D A (w_Md_ h_md ad_md tC md) → va_S A s.heap H locs → ∀ ls : Array Slot, lv_has ls 16 [(10, .int q24), (9, .int v23), (8, .int v11), (6, .long x6), (5, .int x5), (3, .long x3), (2, .int x2), (0, .ref h_md), (1, .int x1)] → W p l e rm_Md_cutBest s m args below meth c H locs 0 0 Q (F0 m 166 ls [.int q27]) := by
            intro H locs hP hD hS ls hl
            refine lv_istore (lv' := [(11, .int q27), (10, .int q24), (9, .int v23), (8, .int v11), (6, .long x6), (5, .int x5), (3, .long x3), (2, .int x2), (0, .ref h_md), (1, .int x1)]) hx hb d_Md_cutBest_166 hl (by decide) rfl (fun ls hl => ?_)
            refine lv_iload hx hb d_Md_cutBest_168 (lv_at hl 0 rfl) ?_
            refine lv_iload hx hb d_Md_cutBest_170 (lv_at hl 1 rfl) ?_
            refine lv_iand hx hb d_Md_cutBest_172 ?_
            refine lv_if_ne (tgt := 201) hx hb d_Md_cutBest_173 (by decide) (fun c29 => ?_) (fun c29 => ?_)
            · have hf := op_e hf c29
              refine lv_aload_n hx hb d_Md_cutBest_201 rfl (lv_at hl 8 rfl) ?_
              refine va_get (D := (dC, dI)) (ci := 9) (v := .ref (ad_md 20)) (C := RX9) (T := TX9) (N := 46) hx hb hts in_X9 hown hK hP 0 rfl rfl 24 (by decide) (hts _ kF_9_72) (fun _ h9 => h9) rfl d_Md_cutBest_202 ?_
              refine lv_iload hx hb d_Md_cutBest_205 (lv_at hl 5 rfl) ?_
              refine lv_iload hx hb d_Md_cutBest_207 (lv_at hl 0 rfl) ?_
              obtain ⟨hi35, hf⟩ := op_if hf
              refine va_iast (f := md.2.1 13) hx hb hK hP hD hS 21 0 rfl rfl (ix_in hi35) d_Md_cutBest_209 (fun H locs hP hD hS => ?_)
              rw [wu_Md_a13] at hP hD
              obtain ⟨md36, hmd36, hf⟩ := op_b hf
              have hP : va_P (dC, dI) vwCl (w_Md_ h_md ad_md tC md36) H := by rw [← Option.some.inj hmd36]; exact hP
              have hD : va_D A (w_Md_ h_md ad_md tC md36) := by rw [← Option.some.inj hmd36]; exact hD
              refine lv_aload_n hx hb d_Md_cutBest_210 rfl (lv_at hl 8 rfl) ?_
              refine va_get (D := (dC, dI)) (ci := 9) (v := .ref (ad_md 13)) (C := RX9) (T := TX9) (N := 46) hx hb hts in_X9 hown hK hP 0 rfl rfl 16 (by decide) (hts _ kF_9_51) (fun _ h9 => h9) rfl d_Md_cutBest_211 ?_
              refine lv_iconst (v := 3) hx hb d_Md_cutBest_214 (by decide) ?_
              refine lv_iload_n hx hb d_Md_cutBest_215 rfl (lv_at hl 9 rfl) ?_
              refine lv_imul hx hb d_Md_cutBest_216 ?_
              refine lv_iload hx hb d_Md_cutBest_217 (lv_at hl 3 rfl) ?_
              refine lv_iadd hx hb d_Md_cutBest_219 ?_
              obtain ⟨hi37, hf⟩ := op_if hf
              refine va_lald (f := md36.2.2 5) hx hb hK hP 14 1 rfl rfl (ix_in hi37) d_Md_cutBest_220 ?_
              obtain ⟨v38, hv38, hf⟩ := op_b hf
              refine rw_l (y := v38) (Option.some.inj hv38) ?_
              refine lv_lstore (lv' := [(12, .long v38), (11, .int q27), (10, .int q24), (9, .int v23), (8, .int v11), (6, .long x6), (5, .int x5), (3, .long x3), (2, .int x2), (0, .ref h_md), (1, .int x1)]) hx hb d_Md_cutBest_221 hl (by decide) rfl (fun ls hl => ?_)
              refine lv_lload_n hx hb d_Md_cutBest_223 rfl (lv_at hl 7 rfl) ?_
              refine lv_lconst (v := 0) hx hb d_Md_cutBest_224 (by decide) ?_
              refine W.lcmp hx hb d_Md_cutBest_225 ?_
              obtain ⟨q40, hq40, hf⟩ := op_b hf
              have J_226 : ∀ (H : Heap) (locs : List Loc), va_P (dC, dI) vwCl (w_Md_ h_md ad_md tC md36) H → va_D A (w_Md_ h_md ad_md tC md36) → va_S A s.heap H locs → ∀ ls : Array Slot, lv_has ls 16 [(12, .long v38), (11, .int q27), (10, .int q24), (9, .int v23), (8, .int v11), (6, .long x6), (5, .int x5), (3, .long x3), (2, .int x2), (0, .ref h_md), (1, .int x1)] → W p l e rm_Md_cutBest s m args below meth c H locs 0 0 Q (F0 m 269 ls [.int q40]) := by
                intro H locs hP hD hS ls hl
                refine lv_istore (lv' := [(14, .int q40), (12, .long v38), (11, .int q27), (10, .int q24), (9, .int v23), (8, .int v11), (6, .long x6), (5, .int x5), (3, .long x3), (2, .int x2), (0, .ref h_md), (1, .int x1)]) hx hb d_Md_cutBest_269 hl (by decide) rfl (fun ls hl => ?_)
                refine lv_aload_n hx hb d_Md_cutBest_271 rfl (lv_at hl 10 rfl) ?_
                refine va_get (D := (dC, dI)) (ci := 9) (v := .ref (ad_md 15)) (C := RX9) (T := TX9) (N := 46) hx hb hts in_X9 hown hK hP 0 rfl rfl 18 (by decide) (hts _ kF_9_57) (fun _ h9 => h9) rfl d_Md_cutBest_272 ?_
                refine lv_iload hx hb d_Md_cutBest_275 (lv_at hl 5 rfl) ?_
                obtain ⟨hi45, hf⟩ := op_if hf
                refine va_iald (f := md36.2.1 9) hx hb hK hP 16 0 rfl rfl (ix_in hi45) d_Md_cutBest_277 ?_
                refine lv_if_eq (tgt := 47) hx hb d_Md_cutBest_278 (by decide) (fun c46 => ?_) (fun c46 => ?_)
                · have hf := op_t hf c46
                  exact ih_47 x1 x2 x3 x5 x6 md36 Rl hf _ _ hP hD hS _ (lv_sub hl [6, 7, 8, 9, 10, 11] rfl) Kk
                · have hf := op_e hf c46
                  refine lv_iload hx hb d_Md_cutBest_281 (lv_at hl 0 rfl) ?_
                  refine lv_if_ne (tgt := 47) hx hb d_Md_cutBest_283 (by decide) (fun c47 => ?_) (fun c47 => ?_)
                  · have hf := op_e hf c47
                    exact ih_47 x1 x2 x3 x5 x6 md36 Rl hf _ _ hP hD hS _ (lv_sub hl [6, 7, 8, 9, 10, 11] rfl) Kk
                  · have hf := op_t hf c47
                    refine lv_aload_n hx hb d_Md_cutBest_286 rfl (lv_at hl 10 rfl) ?_
                    refine lv_iload hx hb d_Md_cutBest_287 (lv_at hl 2 rfl) ?_
                    obtain ⟨q48, hq48, hf⟩ := op_b hf
                    refine ro_go rfl (va_runV (As := [.int q27]) (rest := []) ⟨hx, hb, hml, hown, hts⟩ (m_Md_lengthOfSet l dC dI tC h_md ad_md md36 q27 q48 _ hP hq48) (cwV 1 hts (gd_V kM_9_195 kI_Md_lengthOfSet kV_Md_lengthOfSet kZ_9 kC_Md_lengthOfSet) rfl rfl rfl (by decide +kernel) ⟨(Nat.le_of_ble_eq_true rfl), (Nat.le_of_ble_eq_true rfl)⟩) ⟨ro_blind, va_recv hK hP (ci := 9) (q0 := 0) rfl rfl, ro_pre hK⟩ rfl rfl hl.1 rfl (lv_room (Nat.le_of_ble_eq_true rfl)) d_Md_cutBest_289 ⟨(Nat.le_of_ble_eq_true rfl), (Nat.le_of_ble_eq_true rfl)⟩) ?_
                    refine W.eq (g2 := F0 m 292 ls [.long q48]) rfl ?_
                    refine lv_lload hx hb d_Md_cutBest_292 (lv_at hl 1 rfl) ?_
                    refine W.lcmp hx hb d_Md_cutBest_294 ?_
                    refine lv_if_le (tgt := 301) hx hb d_Md_cutBest_295 (by decide) (fun c49 => ?_) (fun c49 => ?_)
                    · have c49 := (lg_cmp_le _ _).mp c49
                      have hf := op_t hf c49
                      refine lv_iload hx hb d_Md_cutBest_301 (lv_at hl 2 rfl) ?_
                      refine lv_iload hx hb d_Md_cutBest_303 (lv_at hl 4 rfl) ?_
                      refine lv_icmp_ne (tgt := 366) hx hb d_Md_cutBest_305 (by decide) (fun c50 => ?_) (fun c50 => ?_)
                      · have hf := op_e hf c50
                        refine lv_aload_n hx hb d_Md_cutBest_366 rfl (lv_at hl 10 rfl) ?_
                        refine va_get (D := (dC, dI)) (ci := 9) (v := .ref (ad_md 15)) (C := RX9) (T := TX9) (N := 46) hx hb hts in_X9 hown hK hP 0 rfl rfl 18 (by decide) (hts _ kF_9_57) (fun _ h9 => h9) rfl d_Md_cutBest_367 ?_
                        refine lv_iload hx hb d_Md_cutBest_370 (lv_at hl 5 rfl) ?_
                        refine lv_dup2_11 hx hb d_Md_cutBest_372 rfl rfl ?_
                        obtain ⟨hi61, hf⟩ := op_if hf
                        refine va_iald (f := md36.2.1 9) hx hb hK hP 16 0 rfl rfl (ix_in hi61) d_Md_cutBest_373 ?_
                        refine lv_iconst (v := 1) hx hb d_Md_cutBest_374 (by decide) ?_
                        refine lv_isub hx hb d_Md_cutBest_375 ?_
                        obtain ⟨hi62, hf⟩ := op_if hf
                        refine va_iast (f := md36.2.1 9) hx hb hK hP hD hS 16 0 rfl rfl (ix_in hi62) d_Md_cutBest_376 (fun H locs hP hD hS => ?_)
                        rw [wu_Md_a9] at hP hD
                        obtain ⟨md63, hmd63, hf⟩ := op_b hf
                        have hP : va_P (dC, dI) vwCl (w_Md_ h_md ad_md tC md63) H := by rw [← Option.some.inj hmd63]; exact hP
                        have hD : va_D A (w_Md_ h_md ad_md tC md63) := by rw [← Option.some.inj hmd63]; exact hD
                        refine lv_lload hx hb d_Md_cutBest_377 (lv_at hl 6 rfl) ?_
                        refine lv_lload hx hb d_Md_cutBest_379 (lv_at hl 1 rfl) ?_
                        refine lv_ladd hx hb d_Md_cutBest_381 ?_
                        obtain ⟨v64, hv64, hf⟩ := op_b hf
                        refine rw_l (y := v64) (Option.some.inj hv64) ?_
                        refine lv_lstore (lv' := [(6, .long v64), (14, .int q40), (12, .long v38), (11, .int q27), (10, .int q24), (9, .int v23), (8, .int v11), (5, .int x5), (3, .long x3), (2, .int x2), (0, .ref h_md), (1, .int x1)]) hx hb d_Md_cutBest_382 hl (by decide) rfl (fun ls hl => ?_)
                        refine lv_iinc (v := x5 + 1) (lv' := [(5, .int (x5 + 1)), (6, .long v64), (14, .int q40), (12, .long v38), (11, .int q27), (10, .int q24), (9, .int v23), (8, .int v11), (3, .long x3), (2, .int x2), (0, .ref h_md), (1, .int x1)]) hx hb d_Md_cutBest_384 hl (k := 7) rfl rfl (by decide) rfl (fun ls hl => ?_)
                        refine lv_aload_n hx hb d_Md_cutBest_387 rfl (lv_at hl 10 rfl) ?_
                        refine va_get (D := (dC, dI)) (ci := 9) (v := .ref (ad_md 18)) (C := RX9) (T := TX9) (N := 46) hx hb hts in_X9 hown hK hP 0 rfl rfl 22 (by decide) (hts _ kF_9_66) (fun _ h9 => h9) rfl d_Md_cutBest_388 ?_
                        refine lv_iload hx hb d_Md_cutBest_391 (lv_at hl 0 rfl) ?_
                        refine lv_iload hx hb d_Md_cutBest_393 (lv_at hl 6 rfl) ?_
                        refine lv_iload hx hb d_Md_cutBest_395 (lv_at hl 4 rfl) ?_
                        refine lv_iconst (v := (-1)) hx hb d_Md_cutBest_397 (by decide) ?_
                        refine lv_ixor hx hb d_Md_cutBest_398 ?_
                        refine lv_iand hx hb d_Md_cutBest_399 ?_
                        obtain ⟨hi65, hf⟩ := op_if hf
                        refine va_iast (f := md63.2.1 11) hx hb hK hP hD hS 19 0 rfl rfl (ix_in hi65) d_Md_cutBest_400 (fun H locs hP hD hS => ?_)
                        rw [wu_Md_a11] at hP hD
                        obtain ⟨md66, hmd66, hf⟩ := op_b hf
                        have hP : va_P (dC, dI) vwCl (w_Md_ h_md ad_md tC md66) H := by rw [← Option.some.inj hmd66]; exact hP
                        have hD : va_D A (w_Md_ h_md ad_md tC md66) := by rw [← Option.some.inj hmd66]; exact hD
                        refine lv_aload_n hx hb d_Md_cutBest_401 rfl (lv_at hl 10 rfl) ?_
                        refine va_get (D := (dC, dI)) (ci := 9) (v := .ref (ad_md 19)) (C := RX9) (T := TX9) (N := 46) hx hb hts in_X9 hown hK hP 0 rfl rfl 23 (by decide) (hts _ kF_9_69) (fun _ h9 => h9) rfl d_Md_cutBest_402 ?_
                        refine lv_iload hx hb d_Md_cutBest_405 (lv_at hl 0 rfl) ?_
                        refine lv_iconst (v := 0) hx hb d_Md_cutBest_407 (by decide) ?_
                        obtain ⟨hi67, hf⟩ := op_if hf
                        refine va_iast (f := md66.2.1 12) hx hb hK hP hD hS 20 0 rfl rfl (ix_in hi67) d_Md_cutBest_408 (fun H locs hP hD hS => ?_)
                        rw [wu_Md_a12] at hP hD
                        obtain ⟨md68, hmd68, hf⟩ := op_b hf
                        have hP : va_P (dC, dI) vwCl (w_Md_ h_md ad_md tC md68) H := by rw [← Option.some.inj hmd68]; exact hP
                        have hD : va_D A (w_Md_ h_md ad_md tC md68) := by rw [← Option.some.inj hmd68]; exact hD
                        refine lv_aload_n hx hb d_Md_cutBest_409 rfl (lv_at hl 10 rfl) ?_
                        refine va_get (D := (dC, dI)) (ci := 9) (v := .ref (ad_md 20)) (C := RX9) (T := TX9) (N := 46) hx hb hts in_X9 hown hK hP 0 rfl rfl 24 (by decide) (hts _ kF_9_72) (fun _ h9 => h9) rfl d_Md_cutBest_410 ?_
                        refine lv_iload hx hb d_Md_cutBest_413 (lv_at hl 0 rfl) ?_
                        refine lv_aload_n hx hb d_Md_cutBest_415 rfl (lv_at hl 10 rfl) ?_
                        refine va_get (D := (dC, dI)) (ci := 9) (v := .ref (ad_md 18)) (C := RX9) (T := TX9) (N := 46) hx hb hts in_X9 hown hK hP 0 rfl rfl 22 (by decide) (hts _ kF_9_66) (fun _ h9 => h9) rfl d_Md_cutBest_416 ?_
                        refine lv_iload hx hb d_Md_cutBest_419 (lv_at hl 0 rfl) ?_
                        obtain ⟨hi69, hf⟩ := op_if hf
                        refine va_iald (f := md68.2.1 11) hx hb hK hP 19 0 rfl rfl (ix_in hi69) d_Md_cutBest_421 ?_
                        refine lv_iconst (v := 1) hx hb d_Md_cutBest_422 (by decide) ?_
                        refine lv_iadd hx hb d_Md_cutBest_423 ?_
                        obtain ⟨hi70, hf⟩ := op_if hf
                        refine va_iast (f := md68.2.1 13) hx hb hK hP hD hS 21 0 rfl rfl (ix_in hi70) d_Md_cutBest_424 (fun H locs hP hD hS => ?_)
                        rw [wu_Md_a13] at hP hD
                        obtain ⟨md71, hmd71, hf⟩ := op_b hf
                        have hP : va_P (dC, dI) vwCl (w_Md_ h_md ad_md tC md71) H := by rw [← Option.some.inj hmd71]; exact hP
                        have hD : va_D A (w_Md_ h_md ad_md tC md71) := by rw [← Option.some.inj hmd71]; exact hD
                        refine lv_goto (tgt := 47) hx hb d_Md_cutBest_425 (by decide) ?_
                        exact ih_47 x1 x2 x3 (x5 + 1) v64 md71 Rl hf _ _ hP hD hS _ (lv_sub hl [1, 0, 8, 9, 10, 11] rfl) Kk
                      · have hf := op_t hf c50
                        refine lv_lload hx hb d_Md_cutBest_308 (lv_at hl 6 rfl) ?_
                        refine lv_lload hx hb d_Md_cutBest_310 (lv_at hl 1 rfl) ?_
                        refine lv_ladd hx hb d_Md_cutBest_312 ?_
                        obtain ⟨v51, hv51, hf⟩ := op_b hf
                        refine rw_l (y := v51) (Option.some.inj hv51) ?_
                        refine lv_lstore_n (lv' := [(3, .long v51), (14, .int q40), (12, .long v38), (11, .int q27), (10, .int q24), (9, .int v23), (8, .int v11), (6, .long x6), (5, .int x5), (2, .int x2), (0, .ref h_md), (1, .int x1)]) hx hb d_Md_cutBest_313 rfl hl (by decide) rfl (fun ls hl => ?_)
                        refine lv_iload hx hb d_Md_cutBest_314 (lv_at hl 8 rfl) ?_
                        refine lv_iconst (v := 1) hx hb d_Md_cutBest_316 (by decide) ?_
                        refine lv_iadd hx hb d_Md_cutBest_317 ?_
                        obtain ⟨v52, hv52, hf⟩ := op_b hf
                        refine rw_i (y := v52) (Option.some.inj hv52) ?_
                        refine lv_istore_n (lv' := [(2, .int v52), (3, .long v51), (14, .int q40), (12, .long v38), (11, .int q27), (10, .int q24), (9, .int v23), (8, .int v11), (6, .long x6), (5, .int x5), (0, .ref h_md), (1, .int x1)]) hx hb d_Md_cutBest_318 rfl hl (by decide) rfl (fun ls hl => ?_)
                        refine lv_iconst (v := 0) hx hb d_Md_cutBest_319 (by decide) ?_
                        refine lv_istore (lv' := [(15, .int 0), (2, .int v52), (3, .long v51), (14, .int q40), (12, .long v38), (11, .int q27), (10, .int q24), (9, .int v23), (8, .int v11), (6, .long x6), (5, .int x5), (0, .ref h_md), (1, .int x1)]) hx hb d_Md_cutBest_320 hl (by decide) rfl (fun ls hl => ?_)
                        have lp_322 : ∀ (n : Nat) (x1 : Int32) (x2 : Int32) (x3 : Int64) (x5 : Int32) (x6 : Int64) (x8 : Int32) (x9 : Int32) (x10 : Int32) (x11 : Int32) (x12 : Int64) (x14 : Int32) (x15 : Int32) (md : MS) (Rl : Int32 × MS), l_Md_cutBest_322 n x1 x2 x3 x5 x6 x8 x9 x10 x11 x12 x14 x15 md = some Rl → ∀ (H : Heap) (locs : List Loc), va_P (dC, dI) vwCl (w_Md_ h_md ad_md tC md) H → va_D A (w_Md_ h_md ad_md tC md) → va_S A s.heap H locs → ∀ ls : Array Slot, lv_has ls 16 [(15, .int x15), (2, .int x2), (3, .long x3), (14, .int x14), (12, .long x12), (11, .int x11), (10, .int x10), (9, .int x9), (8, .int x8), (6, .long x6), (5, .int x5), (0, .ref h_md), (1, .int x1)] → (∀ (H : Heap) (locs : List Loc), va_P (dC, dI) vwCl (w_Md_ h_md ad_md tC Rl.2) H → va_D A (w_Md_ h_md ad_md tC Rl.2) → va_S A s.heap H locs → ∀ ls : Array Slot, lv_has ls 16 [(15, .int Rl.1), (2, .int x2), (3, .long x3), (14, .int x14), (12, .long x12), (11, .int x11), (10, .int x10), (9, .int x9), (8, .int x8), (6, .long x6), (5, .int x5), (0, .ref h_md), (1, .int x1)] → W p l e rm_Md_cutBest s m args below meth c H locs 0 0 Q (F0 m 363 ls [])) → W p l e rm_Md_cutBest s m args below meth c H locs 0 0 Q (F0 m 322 ls []) := by
                          intro n
                          induction n with
                          | zero => intro x1 x2 x3 x5 x6 x8 x9 x10 x11 x12 x14 x15 md Rl hf; cases hf
                          | succ n ih_322 =>
                            intro x1 x2 x3 x5 x6 x8 x9 x10 x11 x12 x14 x15 md Rl hf H locs hP hD hS ls hl Kk
                            rw [l_Md_cutBest_322] at hf
                            refine lv_iload hx hb d_Md_cutBest_322 (lv_at hl 0 rfl) ?_
                            refine lv_iload hx hb d_Md_cutBest_324 (lv_at hl 10 rfl) ?_
                            refine lv_icmp_gt (tgt := 363) hx hb d_Md_cutBest_326 (by decide) (fun c54 => ?_) (fun c54 => ?_)
                            · have hf := op_t hf c54
                              obtain rfl := Option.some.inj hf
                              exact Kk _ _ hP hD hS _ (lv_sub hl [0, 1, 2, 3, 4, 5, 6, 7, 8, 9, 10, 11, 12] rfl)
                            · have hf := op_e hf c54
                              refine lv_aload_n hx hb d_Md_cutBest_329 rfl (lv_at hl 11 rfl) ?_
                              refine va_get (D := (dC, dI)) (ci := 9) (v := .ref (ad_md 21)) (C := RX9) (T := TX9) (N := 46) hx hb hts in_X9 hown hK hP 0 rfl rfl 25 (by decide) (hts _ kF_9_75) (fun _ h9 => h9) rfl d_Md_cutBest_330 ?_
                              refine lv_iload hx hb d_Md_cutBest_333 (lv_at hl 0 rfl) ?_
                              refine lv_aload_n hx hb d_Md_cutBest_335 rfl (lv_at hl 11 rfl) ?_
                              refine va_get (D := (dC, dI)) (ci := 9) (v := .ref (ad_md 19)) (C := RX9) (T := TX9) (N := 46) hx hb hts in_X9 hown hK hP 0 rfl rfl 23 (by decide) (hts _ kF_9_69) (fun _ h9 => h9) rfl d_Md_cutBest_336 ?_
                              refine lv_iload hx hb d_Md_cutBest_339 (lv_at hl 0 rfl) ?_
                              obtain ⟨hi55, hf⟩ := op_if hf
                              refine va_iald (f := md.2.1 12) hx hb hK hP 20 0 rfl rfl (ix_in hi55) d_Md_cutBest_341 ?_
                              obtain ⟨hi56, hf⟩ := op_if hf
                              refine va_iast (f := md.2.1 14) hx hb hK hP hD hS 22 0 rfl rfl (ix_in hi56) d_Md_cutBest_342 (fun H locs hP hD hS => ?_)
                              rw [wu_Md_a14] at hP hD
                              obtain ⟨md57, hmd57, hf⟩ := op_b hf
                              have hP : va_P (dC, dI) vwCl (w_Md_ h_md ad_md tC md57) H := by rw [← Option.some.inj hmd57]; exact hP
                              have hD : va_D A (w_Md_ h_md ad_md tC md57) := by rw [← Option.some.inj hmd57]; exact hD
                              refine lv_aload_n hx hb d_Md_cutBest_343 rfl (lv_at hl 11 rfl) ?_
                              refine va_get (D := (dC, dI)) (ci := 9) (v := .ref (ad_md 22)) (C := RX9) (T := TX9) (N := 46) hx hb hts in_X9 hown hK hP 0 rfl rfl 26 (by decide) (hts _ kF_9_78) (fun _ h9 => h9) rfl d_Md_cutBest_344 ?_
                              refine lv_iload hx hb d_Md_cutBest_347 (lv_at hl 0 rfl) ?_
                              refine lv_aload_n hx hb d_Md_cutBest_349 rfl (lv_at hl 11 rfl) ?_
                              refine va_get (D := (dC, dI)) (ci := 9) (v := .ref (ad_md 20)) (C := RX9) (T := TX9) (N := 46) hx hb hts in_X9 hown hK hP 0 rfl rfl 24 (by decide) (hts _ kF_9_72) (fun _ h9 => h9) rfl d_Md_cutBest_350 ?_
                              refine lv_iload hx hb d_Md_cutBest_353 (lv_at hl 0 rfl) ?_
                              obtain ⟨hi58, hf⟩ := op_if hf
                              refine va_iald (f := md57.2.1 13) hx hb hK hP 21 0 rfl rfl (ix_in hi58) d_Md_cutBest_355 ?_
                              obtain ⟨hi59, hf⟩ := op_if hf
                              refine va_iast (f := md57.2.1 15) hx hb hK hP hD hS 23 0 rfl rfl (ix_in hi59) d_Md_cutBest_356 (fun H locs hP hD hS => ?_)
                              rw [wu_Md_a15] at hP hD
                              obtain ⟨md60, hmd60, hf⟩ := op_b hf
                              have hP : va_P (dC, dI) vwCl (w_Md_ h_md ad_md tC md60) H := by rw [← Option.some.inj hmd60]; exact hP
                              have hD : va_D A (w_Md_ h_md ad_md tC md60) := by rw [← Option.some.inj hmd60]; exact hD
                              refine lv_iinc (v := x15 + 1) (lv' := [(15, .int (x15 + 1)), (2, .int x2), (3, .long x3), (14, .int x14), (12, .long x12), (11, .int x11), (10, .int x10), (9, .int x9), (8, .int x8), (6, .long x6), (5, .int x5), (0, .ref h_md), (1, .int x1)]) hx hb d_Md_cutBest_357 hl (k := 0) rfl rfl (by decide) rfl (fun ls hl => ?_)
                              refine lv_goto (tgt := 322) hx hb d_Md_cutBest_360 (by decide) ?_
                              exact ih_322 x1 x2 x3 x5 x6 x8 x9 x10 x11 x12 x14 (x15 + 1) md60 Rl hf _ _ hP hD hS _ (lv_sub hl [0, 1, 2, 3, 4, 5, 6, 7, 8, 9, 10, 11, 12] rfl) Kk
                        obtain ⟨q53, hq53, hf⟩ := op_b hf
                        refine lp_322 fu x1 v52 v51 x5 x6 v11 v23 q24 q27 v38 q40 0 md36 q53 hq53 _ _ hP hD hS _ (lv_sub hl [0, 1, 2, 3, 4, 5, 6, 7, 8, 9, 10, 11, 12] rfl) ?_
                        intro H locs hP hD hS ls hl
                        refine lv_goto (tgt := 47) hx hb d_Md_cutBest_363 (by decide) ?_
                        exact ih_47 x1 v52 v51 x5 x6 q53.2 Rl hf _ _ hP hD hS _ (lv_sub hl [9, 10, 2, 1, 11, 12] rfl) Kk
                    · have c49 := fun h9 => c49 ((lg_cmp_le _ _).mpr h9)
                      have hf := op_e hf c49
                      refine lv_goto (tgt := 47) hx hb d_Md_cutBest_298 (by decide) ?_
                      exact ih_47 x1 x2 x3 x5 x6 md36 Rl hf _ _ hP hD hS _ (lv_sub hl [6, 7, 8, 9, 10, 11] rfl) Kk
              clear hf
              have hf := hq40
              clear hq40
              refine lv_if_lt (tgt := 268) hx hb d_Md_cutBest_226 (by decide) (fun c39 => ?_) (fun c39 => ?_)
              · have c39 := (lg_cmp_lt _ _).mp c39
                have hf := op_t hf c39
                refine lv_iconst (v := 0) hx hb d_Md_cutBest_268 (by decide) ?_
                obtain rfl := Option.some.inj hf
                exact J_226 _ _ hP hD hS _ (lv_sub hl [0, 1, 2, 3, 4, 5, 6, 7, 8, 9, 10] rfl)
              · have c39 := fun h9 => c39 ((lg_cmp_lt _ _).mpr h9)
                have hf := op_e hf c39
                refine lv_lload hx hb d_Md_cutBest_229 (lv_at hl 5 rfl) ?_
                refine lv_lload hx hb d_Md_cutBest_231 (lv_at hl 0 rfl) ?_
                refine lv_ladd hx hb d_Md_cutBest_233 ?_
                refine lv_lload_n hx hb d_Md_cutBest_234 rfl (lv_at hl 7 rfl) ?_
                refine W.lcmp hx hb d_Md_cutBest_235 ?_
                refine lv_if_gt (tgt := 264) hx hb d_Md_cutBest_236 (by decide) (fun c41 => ?_) (fun c41 => ?_)
                · have c41 := (lg_cmp_gt _ _).mp c41
                  have hf := op_t hf c41
                  refine lv_iconst (v := 1) hx hb d_Md_cutBest_264 (by decide) ?_
                  refine lv_goto (tgt := 269) hx hb d_Md_cutBest_265 (by decide) ?_
                  obtain rfl := Option.some.inj hf
                  exact J_226 _ _ hP hD hS _ (lv_sub hl [0, 1, 2, 3, 4, 5, 6, 7, 8, 9, 10] rfl)
                · have c41 := fun h9 => c41 ((lg_cmp_gt _ _).mpr h9)
                  have hf := op_e hf c41
                  refine lv_lload hx hb d_Md_cutBest_239 (lv_at hl 5 rfl) ?_
                  refine lv_lload hx hb d_Md_cutBest_241 (lv_at hl 0 rfl) ?_
                  refine lv_ladd hx hb d_Md_cutBest_243 ?_
                  refine lv_lload_n hx hb d_Md_cutBest_244 rfl (lv_at hl 7 rfl) ?_
                  refine W.lcmp hx hb d_Md_cutBest_245 ?_
                  refine lv_if_ne (tgt := 268) hx hb d_Md_cutBest_246 (by decide) (fun c42 => ?_) (fun c42 => ?_)
                  · have c42 := fun h9 => c42 ((lg_cmp_eq _ _).mpr h9)
                    have hf := op_e hf c42
                    refine lv_iconst (v := 0) hx hb d_Md_cutBest_268 (by decide) ?_
                    obtain rfl := Option.some.inj hf
                    exact J_226 _ _ hP hD hS _ (lv_sub hl [0, 1, 2, 3, 4, 5, 6, 7, 8, 9, 10] rfl)
                  · have c42 := (lg_cmp_eq _ _).mp c42
                    have hf := op_t hf c42
                    refine lv_iload hx hb d_Md_cutBest_249 (lv_at hl 1 rfl) ?_
                    refine lv_iload hx hb d_Md_cutBest_251 (lv_at hl 3 rfl) ?_
                    refine lv_icmp_ne (tgt := 264) hx hb d_Md_cutBest_253 (by decide) (fun c43 => ?_) (fun c43 => ?_)
                    · have hf := op_e hf c43
                      refine lv_iconst (v := 1) hx hb d_Md_cutBest_264 (by decide) ?_
                      refine lv_goto (tgt := 269) hx hb d_Md_cutBest_265 (by decide) ?_
                      obtain rfl := Option.some.inj hf
                      exact J_226 _ _ hP hD hS _ (lv_sub hl [0, 1, 2, 3, 4, 5, 6, 7, 8, 9, 10] rfl)
                    · have hf := op_t hf c43
                      refine lv_iload hx hb d_Md_cutBest_256 (lv_at hl 6 rfl) ?_
                      refine lv_iconst (v := 1) hx hb d_Md_cutBest_258 (by decide) ?_
                      refine lv_iadd hx hb d_Md_cutBest_259 ?_
                      refine lv_iload_n hx hb d_Md_cutBest_260 rfl (lv_at hl 8 rfl) ?_
                      refine lv_icmp_lt (tgt := 268) hx hb d_Md_cutBest_261 (by decide) (fun c44 => ?_) (fun c44 => ?_)
                      · have hf := op_t hf c44
                        refine lv_iconst (v := 0) hx hb d_Md_cutBest_268 (by decide) ?_
                        obtain rfl := Option.some.inj hf
                        exact J_226 _ _ hP hD hS _ (lv_sub hl [0, 1, 2, 3, 4, 5, 6, 7, 8, 9, 10] rfl)
                      · have hf := op_e hf c44
                        refine lv_iconst (v := 1) hx hb d_Md_cutBest_264 (by decide) ?_
                        refine lv_goto (tgt := 269) hx hb d_Md_cutBest_265 (by decide) ?_
                        obtain rfl := Option.some.inj hf
                        exact J_226 _ _ hP hD hS _ (lv_sub hl [0, 1, 2, 3, 4, 5, 6, 7, 8, 9, 10] rfl)
            · have hf := op_t hf c29
              refine lv_aload_n hx hb d_Md_cutBest_176 rfl (lv_at hl 8 rfl) ?_
              refine va_get (D := (dC, dI)) (ci := 9) (v := .ref (ad_md 19)) (C := RX9) (T := TX9) (N := 46) hx hb hts in_X9 hown hK hP 0 rfl rfl 23 (by decide) (hts _ kF_9_69) (fun _ h9 => h9) rfl d_Md_cutBest_177 ?_
              refine lv_iload hx hb d_Md_cutBest_180 (lv_at hl 5 rfl) ?_
              refine lv_dup2_11 hx hb d_Md_cutBest_182 rfl rfl ?_
              obtain ⟨hi30, hf⟩ := op_if hf
              refine va_iald (f := md.2.1 12) hx hb hK hP 20 0 rfl rfl (ix_in hi30) d_Md_cutBest_183 ?_
              refine lv_iconst (v := 1) hx hb d_Md_cutBest_184 (by decide) ?_
              refine lv_iadd hx hb d_Md_cutBest_185 ?_
              obtain ⟨hi31, hf⟩ := op_if hf
              refine va_iast (f := md.2.1 12) hx hb hK hP hD hS 20 0 rfl rfl (ix_in hi31) d_Md_cutBest_186 (fun H locs hP hD hS => ?_)
              rw [wu_Md_a12] at hP hD
              obtain ⟨md32, hmd32, hf⟩ := op_b hf
              have hP : va_P (dC, dI) vwCl (w_Md_ h_md ad_md tC md32) H := by rw [← Option.some.inj hmd32]; exact hP
              have hD : va_D A (w_Md_ h_md ad_md tC md32) := by rw [← Option.some.inj hmd32]; exact hD
              refine lv_aload_n hx hb d_Md_cutBest_187 rfl (lv_at hl 8 rfl) ?_
              refine va_get (D := (dC, dI)) (ci := 9) (v := .ref (ad_md 20)) (C := RX9) (T := TX9) (N := 46) hx hb hts in_X9 hown hK hP 0 rfl rfl 24 (by decide) (hts _ kF_9_72) (fun _ h9 => h9) rfl d_Md_cutBest_188 ?_
              refine lv_iload hx hb d_Md_cutBest_191 (lv_at hl 5 rfl) ?_
              refine lv_iload hx hb d_Md_cutBest_193 (lv_at hl 2 rfl) ?_
              refine lv_iconst (v := 1) hx hb d_Md_cutBest_195 (by decide) ?_
              refine lv_iadd hx hb d_Md_cutBest_196 ?_
              obtain ⟨hi33, hf⟩ := op_if hf
              refine va_iast (f := md32.2.1 13) hx hb hK hP hD hS 21 0 rfl rfl (ix_in hi33) d_Md_cutBest_197 (fun H locs hP hD hS => ?_)
              rw [wu_Md_a13] at hP hD
              obtain ⟨md34, hmd34, hf⟩ := op_b hf
              have hP : va_P (dC, dI) vwCl (w_Md_ h_md ad_md tC md34) H := by rw [← Option.some.inj hmd34]; exact hP
              have hD : va_D A (w_Md_ h_md ad_md tC md34) := by rw [← Option.some.inj hmd34]; exact hD
              refine lv_goto (tgt := 47) hx hb d_Md_cutBest_198 (by decide) ?_
              exact ih_47 x1 x2 x3 x5 x6 md34 Rl hf _ _ hP hD hS _ (lv_sub hl [4, 5, 6, 7, 8, 9] rfl) Kk
          clear hf
          have hf := hq27
          clear hq27
          refine lv_icmp_le (tgt := 154) hx hb d_Md_cutBest_146 (by decide) (fun c26 => ?_) (fun c26 => ?_)
          · have hf := op_t hf c26
            refine lv_aload_n hx hb d_Md_cutBest_154 rfl (lv_at hl 7 rfl) ?_
            refine va_get (D := (dC, dI)) (ci := 9) (v := .ref (ad_md 20)) (C := RX9) (T := TX9) (N := 46) hx hb hts in_X9 hown hK hP 0 rfl rfl 24 (by decide) (hts _ kF_9_72) (fun _ h9 => h9) rfl d_Md_cutBest_155 ?_
            refine lv_iload hx hb d_Md_cutBest_158 (lv_at hl 4 rfl) ?_
            obtain ⟨hi28, hf⟩ := op_if hf
            refine va_iald (f := md.2.1 13) hx hb hK hP 21 0 rfl rfl (ix_in hi28) d_Md_cutBest_160 ?_
            refine lv_iconst (v := 1) hx hb d_Md_cutBest_161 (by decide) ?_
            refine lv_isub hx hb d_Md_cutBest_162 ?_
            refine lv_iload hx hb d_Md_cutBest_163 (lv_at hl 1 rfl) ?_
            refine lv_iand hx hb d_Md_cutBest_165 ?_
            obtain rfl := Option.some.inj hf
            exact J_146 _ _ hP hD hS _ (lv_sub hl [0, 1, 2, 3, 4, 5, 6, 7, 8] rfl)
          · have hf := op_e hf c26
            refine lv_iload hx hb d_Md_cutBest_149 (lv_at hl 1 rfl) ?_
            refine lv_goto (tgt := 166) hx hb d_Md_cutBest_151 (by decide) ?_
            obtain rfl := Option.some.inj hf
            exact J_146 _ _ hP hD hS _ (lv_sub hl [0, 1, 2, 3, 4, 5, 6, 7, 8] rfl)
        · have hf := op_t hf c13
          refine lv_iinc (v := x5 + (-1)) (lv' := [(5, .int (x5 + (-1))), (8, .int v11), (6, .long x6), (3, .long x3), (2, .int x2), (0, .ref h_md), (1, .int x1)]) hx hb d_Md_cutBest_72 hl (k := 2) rfl rfl (by decide) rfl (fun ls hl => ?_)
          refine lv_iload hx hb d_Md_cutBest_75 (lv_at hl 0 rfl) ?_
          refine lv_if_lt (tgt := 47) hx hb d_Md_cutBest_77 (by decide) (fun c14 => ?_) (fun c14 => ?_)
          · have hf := op_t hf c14
            exact ih_47 x1 x2 x3 (x5 + (-1)) x6 md Rl hf _ _ hP hD hS _ (lv_sub hl [2, 0, 3, 4, 5, 6] rfl) Kk
          · have hf := op_e hf c14
            refine lv_aload_n hx hb d_Md_cutBest_80 rfl (lv_at hl 5 rfl) ?_
            refine va_get (D := (dC, dI)) (ci := 9) (v := .ref (ad_md 15)) (C := RX9) (T := TX9) (N := 46) hx hb hts in_X9 hown hK hP 0 rfl rfl 18 (by decide) (hts _ kF_9_57) (fun _ h9 => h9) rfl d_Md_cutBest_81 ?_
            refine lv_aload_n hx hb d_Md_cutBest_84 rfl (lv_at hl 5 rfl) ?_
            refine va_get (D := (dC, dI)) (ci := 9) (v := .ref (ad_md 19)) (C := RX9) (T := TX9) (N := 46) hx hb hts in_X9 hown hK hP 0 rfl rfl 23 (by decide) (hts _ kF_9_69) (fun _ h9 => h9) rfl d_Md_cutBest_85 ?_
            refine lv_iload hx hb d_Md_cutBest_88 (lv_at hl 0 rfl) ?_
            obtain ⟨hi15, hf⟩ := op_if hf
            refine va_iald (f := md.2.1 12) hx hb hK hP 20 0 rfl rfl (ix_in hi15) d_Md_cutBest_90 ?_
            refine lv_dup2_11 hx hb d_Md_cutBest_91 rfl rfl ?_
            obtain ⟨hi16, hf⟩ := op_if hf
            refine va_iald (f := md.2.1 9) hx hb hK hP 16 0 rfl rfl (ix_in hi16) d_Md_cutBest_92 ?_
            refine lv_iconst (v := 1) hx hb d_Md_cutBest_93 (by decide) ?_
            refine lv_iadd hx hb d_Md_cutBest_94 ?_
            obtain ⟨hi17, hf⟩ := op_if hf
            refine va_iast (f := md.2.1 9) hx hb hK hP hD hS 16 0 rfl rfl (ix_in hi17) d_Md_cutBest_95 (fun H locs hP hD hS => ?_)
            rw [wu_Md_a9] at hP hD
            obtain ⟨md18, hmd18, hf⟩ := op_b hf
            have hP : va_P (dC, dI) vwCl (w_Md_ h_md ad_md tC md18) H := by rw [← Option.some.inj hmd18]; exact hP
            have hD : va_D A (w_Md_ h_md ad_md tC md18) := by rw [← Option.some.inj hmd18]; exact hD
            refine lv_lload hx hb d_Md_cutBest_96 (lv_at hl 2 rfl) ?_
            refine lv_aload_n hx hb d_Md_cutBest_98 rfl (lv_at hl 5 rfl) ?_
            refine va_get (D := (dC, dI)) (ci := 9) (v := .ref (ad_md 13)) (C := RX9) (T := TX9) (N := 46) hx hb hts in_X9 hown hK hP 0 rfl rfl 16 (by decide) (hts _ kF_9_51) (fun _ h9 => h9) rfl d_Md_cutBest_99 ?_
            refine lv_iconst (v := 3) hx hb d_Md_cutBest_102 (by decide) ?_
            refine lv_iload_n hx hb d_Md_cutBest_103 rfl (lv_at hl 6 rfl) ?_
            refine lv_imul hx hb d_Md_cutBest_104 ?_
            refine lv_aload_n hx hb d_Md_cutBest_105 rfl (lv_at hl 5 rfl) ?_
            refine va_get (D := (dC, dI)) (ci := 9) (v := .ref (ad_md 19)) (C := RX9) (T := TX9) (N := 46) hx hb hts in_X9 hown hK hP 0 rfl rfl 23 (by decide) (hts _ kF_9_69) (fun _ h9 => h9) rfl d_Md_cutBest_106 ?_
            refine lv_iload hx hb d_Md_cutBest_109 (lv_at hl 0 rfl) ?_
            obtain ⟨hi19, hf⟩ := op_if hf
            refine va_iald (f := md18.2.1 12) hx hb hK hP 20 0 rfl rfl (ix_in hi19) d_Md_cutBest_111 ?_
            refine lv_iadd hx hb d_Md_cutBest_112 ?_
            obtain ⟨hi20, hf⟩ := op_if hf
            refine va_lald (f := md18.2.2 5) hx hb hK hP 14 1 rfl rfl (ix_in hi20) d_Md_cutBest_113 ?_
            refine lv_lsub hx hb d_Md_cutBest_114 ?_
            obtain ⟨v21, hv21, hf⟩ := op_b hf
            refine rw_l (y := v21) (Option.some.inj hv21) ?_
            refine lv_lstore (lv' := [(6, .long v21), (5, .int (x5 + (-1))), (8, .int v11), (3, .long x3), (2, .int x2), (0, .ref h_md), (1, .int x1)]) hx hb d_Md_cutBest_115 hl (by decide) rfl (fun ls hl => ?_)
            refine lv_goto (tgt := 47) hx hb d_Md_cutBest_117 (by decide) ?_
            exact ih_47 x1 x2 x3 (x5 + (-1)) v21 md18 Rl hf _ _ hP hD hS _ (lv_sub hl [0, 1, 3, 4, 5, 6] rfl) Kk
  obtain ⟨q8, hq8, hf⟩ := op_b hf
  refine lp_47 fu p1 0 (-1) 0 0 md7 q8 hq8 _ _ hP hD hS _ (lv_sub hl [0, 1, 2, 3, 4, 5] rfl) ?_
  intro H locs hP hD hS ls hl
  refine lv_iconst (v := 0) hx hb d_Md_cutBest_428 (by decide) ?_
  refine lv_istore (lv' := [(8, .int 0), (6, .long q8.2.2.2.1), (5, .int q8.2.2.1), (3, .long q8.2.1), (2, .int q8.1), (0, .ref h_md), (1, .int p1)]) hx hb d_Md_cutBest_429 hl (by decide) rfl (fun ls hl => ?_)
  have lp_431 : ∀ (n : Nat) (x1 : Int32) (x2 : Int32) (x3 : Int64) (x5 : Int32) (x6 : Int64) (x8 : Int32) (md : MS) (Rl : Int32 × MS), l_Md_cutBest_431 n x1 x2 x3 x5 x6 x8 md = some Rl → ∀ (H : Heap) (locs : List Loc), va_P (dC, dI) vwCl (w_Md_ h_md ad_md tC md) H → va_D A (w_Md_ h_md ad_md tC md) → va_S A s.heap H locs → ∀ ls : Array Slot, lv_has ls 16 [(8, .int x8), (6, .long x6), (5, .int x5), (3, .long x3), (2, .int x2), (0, .ref h_md), (1, .int x1)] → (∀ (H : Heap) (locs : List Loc), va_P (dC, dI) vwCl (w_Md_ h_md ad_md tC Rl.2) H → va_D A (w_Md_ h_md ad_md tC Rl.2) → va_S A s.heap H locs → ∀ ls : Array Slot, lv_has ls 16 [(8, .int Rl.1), (6, .long x6), (5, .int x5), (3, .long x3), (2, .int x2), (0, .ref h_md), (1, .int x1)] → W p l e rm_Md_cutBest s m args below meth c H locs 0 0 Q (F0 m 508 ls [])) → W p l e rm_Md_cutBest s m args below meth c H locs 0 0 Q (F0 m 431 ls []) := by
    intro n
    induction n with
    | zero => intro x1 x2 x3 x5 x6 x8 md Rl hf; cases hf
    | succ n ih_431 =>
      intro x1 x2 x3 x5 x6 x8 md Rl hf H locs hP hD hS ls hl Kk
      rw [l_Md_cutBest_431] at hf
      refine lv_iload hx hb d_Md_cutBest_431 (lv_at hl 0 rfl) ?_
      refine lv_iload_n hx hb d_Md_cutBest_433 rfl (lv_at hl 4 rfl) ?_
      refine lv_icmp_ge (tgt := 508) hx hb d_Md_cutBest_434 (by decide) (fun c73 => ?_) (fun c73 => ?_)
      · have hf := op_t hf c73
        obtain rfl := Option.some.inj hf
        exact Kk _ _ hP hD hS _ (lv_sub hl [0, 1, 2, 3, 4, 5, 6] rfl)
      · have hf := op_e hf c73
        refine lv_aload_n hx hb d_Md_cutBest_437 rfl (lv_at hl 5 rfl) ?_
        refine lv_iload_n hx hb d_Md_cutBest_438 rfl (lv_at hl 6 rfl) ?_
        refine lv_aload_n hx hb d_Md_cutBest_439 rfl (lv_at hl 5 rfl) ?_
        refine va_get (D := (dC, dI)) (ci := 9) (v := .ref (ad_md 21)) (C := RX9) (T := TX9) (N := 46) hx hb hts in_X9 hown hK hP 0 rfl rfl 25 (by decide) (hts _ kF_9_75) (fun _ h9 => h9) rfl d_Md_cutBest_440 ?_
        refine lv_iload hx hb d_Md_cutBest_443 (lv_at hl 0 rfl) ?_
        obtain ⟨hi74, hf⟩ := op_if hf
        refine va_iald (f := md.2.1 14) hx hb hK hP 22 0 rfl rfl (ix_in hi74) d_Md_cutBest_445 ?_
        obtain ⟨q75, hq75, hf⟩ := op_b hf
        have hPc := hP
        have hDc := hD
        have hFc := va_free (wc := (w_Md_ h_md ad_md tC md)) hD hS hA [0, 1, 2, 3, 4, 5, 6, 7, 8, 9, 10, 11, 12, 13, 14, 15, 16, 17, 18, 19, 20, 21, 22, 23, 24, 25, 26, 27, 28, 29, 30, 31, 32, 33, 34, 35, 36] rfl
        refine wr_go (va_runV (As := [.int x1, .int ((md.2.1 14) x8.toNatClampNeg)]) (rest := []) ⟨hx, hb, hml, hown, hts⟩ (m_Md_openBar l dC dI tC h_md ad_md md x1 ((md.2.1 14) x8.toNatClampNeg) q75 hq75 _) (cwV 2 hts (gd_V kM_9_185 kI_Md_openBar kV_Md_openBar kZ_9 kC_Md_openBar) rfl rfl rfl (by decide +kernel) ⟨(Nat.le_of_ble_eq_true rfl), (Nat.le_of_ble_eq_true rfl)⟩) ⟨wr_blind, va_recv hK hP (ci := 9) (q0 := 0) rfl rfl, wr_pre hK hPc hDc⟩ rfl rfl hl.1 rfl (lv_room (Nat.le_of_ble_eq_true rfl)) d_Md_cutBest_446 ⟨(Nat.le_of_ble_eq_true rfl), (Nat.le_of_ble_eq_true rfl)⟩) hS hFc (fun r w1 H1 locs hw hP1 hD1 hk1 hS => ?_)
        obtain ⟨rfl, rfl⟩ := hw
        have hP := hP1
        have hD := hD1.weaken (fun _ q _ h => hFc q.1 h)
        clear hP1 hD1 hk1 hPc hDc hFc
        have hP : va_P (dC, dI) vwCl (w_Md_ h_md ad_md tC q75.2) _ := hP
        have hD : va_D A (w_Md_ h_md ad_md tC q75.2) := hD
        refine W.eq (g2 := F0 m 449 ls []) rfl ?_
        refine lv_iconst (v := 0) hx hb d_Md_cutBest_449 (by decide) ?_
        refine lv_istore (lv' := [(9, .int 0), (8, .int x8), (6, .long x6), (5, .int x5), (3, .long x3), (2, .int x2), (0, .ref h_md), (1, .int x1)]) hx hb d_Md_cutBest_450 hl (by decide) rfl (fun ls hl => ?_)
        have lp_452 : ∀ (n : Nat) (x1 : Int32) (x2 : Int32) (x3 : Int64) (x5 : Int32) (x6 : Int64) (x8 : Int32) (x9 : Int32) (md : MS) (Rl : Int32 × MS), l_Md_cutBest_452 n x1 x2 x3 x5 x6 x8 x9 md = some Rl → ∀ (H : Heap) (locs : List Loc), va_P (dC, dI) vwCl (w_Md_ h_md ad_md tC md) H → va_D A (w_Md_ h_md ad_md tC md) → va_S A s.heap H locs → ∀ ls : Array Slot, lv_has ls 16 [(9, .int x9), (8, .int x8), (6, .long x6), (5, .int x5), (3, .long x3), (2, .int x2), (0, .ref h_md), (1, .int x1)] → (∀ (H : Heap) (locs : List Loc), va_P (dC, dI) vwCl (w_Md_ h_md ad_md tC Rl.2) H → va_D A (w_Md_ h_md ad_md tC Rl.2) → va_S A s.heap H locs → ∀ ls : Array Slot, lv_has ls 16 [(9, .int Rl.1), (8, .int x8), (6, .long x6), (5, .int x5), (3, .long x3), (2, .int x2), (0, .ref h_md), (1, .int x1)] → W p l e rm_Md_cutBest s m args below meth c H locs 0 0 Q (F0 m 502 ls [])) → W p l e rm_Md_cutBest s m args below meth c H locs 0 0 Q (F0 m 452 ls []) := by
          intro n
          induction n with
          | zero => intro x1 x2 x3 x5 x6 x8 x9 md Rl hf; cases hf
          | succ n ih_452 =>
            intro x1 x2 x3 x5 x6 x8 x9 md Rl hf H locs hP hD hS ls hl Kk
            rw [l_Md_cutBest_452] at hf
            refine lv_iload hx hb d_Md_cutBest_452 (lv_at hl 0 rfl) ?_
            refine lv_aload_n hx hb d_Md_cutBest_454 rfl (lv_at hl 6 rfl) ?_
            refine va_get (D := (dC, dI)) (ci := 9) (v := .int (md.1 3)) (C := RX9) (T := TX9) (N := 46) hx hb hts in_X9 hown hK hP 0 rfl rfl 19 (by decide) (hts _ kF_9_175) (fun _ h9 => h9) rfl d_Md_cutBest_455 ?_
            refine lv_icmp_ge (tgt := 502) hx hb d_Md_cutBest_458 (by decide) (fun c77 => ?_) (fun c77 => ?_)
            · have hf := op_t hf c77
              obtain rfl := Option.some.inj hf
              exact Kk _ _ hP hD hS _ (lv_sub hl [0, 1, 2, 3, 4, 5, 6, 7] rfl)
            · have hf := op_e hf c77
              refine lv_aload_n hx hb d_Md_cutBest_461 rfl (lv_at hl 6 rfl) ?_
              refine va_get (D := (dC, dI)) (ci := 9) (v := .ref (ad_md 22)) (C := RX9) (T := TX9) (N := 46) hx hb hts in_X9 hown hK hP 0 rfl rfl 26 (by decide) (hts _ kF_9_78) (fun _ h9 => h9) rfl d_Md_cutBest_462 ?_
              refine lv_iload hx hb d_Md_cutBest_465 (lv_at hl 1 rfl) ?_
              obtain ⟨hi78, hf⟩ := op_if hf
              refine va_iald (f := md.2.1 15) hx hb hK hP 23 0 rfl rfl (ix_in hi78) d_Md_cutBest_467 ?_
              refine lv_aload_n hx hb d_Md_cutBest_468 rfl (lv_at hl 6 rfl) ?_
              refine va_get (D := (dC, dI)) (ci := 9) (v := .int (md.1 3)) (C := RX9) (T := TX9) (N := 46) hx hb hts in_X9 hown hK hP 0 rfl rfl 19 (by decide) (hts _ kF_9_175) (fun _ h9 => h9) rfl d_Md_cutBest_469 ?_
              refine lv_iconst (v := 1) hx hb d_Md_cutBest_472 (by decide) ?_
              refine lv_isub hx hb d_Md_cutBest_473 ?_
              refine lv_iload hx hb d_Md_cutBest_474 (lv_at hl 0 rfl) ?_
              refine lv_isub hx hb d_Md_cutBest_476 ?_
              refine lv_ishr hx hb d_Md_cutBest_477 ?_
              refine lv_iconst (v := 1) hx hb d_Md_cutBest_478 (by decide) ?_
              refine lv_iand hx hb d_Md_cutBest_479 ?_
              refine lv_iconst (v := 1) hx hb d_Md_cutBest_480 (by decide) ?_
              refine lv_icmp_ne (tgt := 496) hx hb d_Md_cutBest_481 (by decide) (fun c79 => ?_) (fun c79 => ?_)
              · have hf := op_e hf c79
                refine lv_iinc (v := x9 + 1) (lv' := [(9, .int (x9 + 1)), (8, .int x8), (6, .long x6), (5, .int x5), (3, .long x3), (2, .int x2), (0, .ref h_md), (1, .int x1)]) hx hb d_Md_cutBest_496 hl (k := 0) rfl rfl (by decide) rfl (fun ls hl => ?_)
                refine lv_goto (tgt := 452) hx hb d_Md_cutBest_499 (by decide) ?_
                exact ih_452 x1 x2 x3 x5 x6 x8 (x9 + 1) md Rl hf _ _ hP hD hS _ (lv_sub hl [0, 1, 2, 3, 4, 5, 6, 7] rfl) Kk
              · have hf := op_t hf c79
                refine lv_aload_n hx hb d_Md_cutBest_484 rfl (lv_at hl 6 rfl) ?_
                refine lv_aload_n hx hb d_Md_cutBest_485 rfl (lv_at hl 6 rfl) ?_
                refine va_get (D := (dC, dI)) (ci := 9) (v := .int (md.1 5)) (C := RX9) (T := TX9) (N := 46) hx hb hts in_X9 hown hK hP 0 rfl rfl 28 (by decide) (hts _ kF_9_178) (fun _ h9 => h9) rfl d_Md_cutBest_486 ?_
                refine lv_iconst (v := 1) hx hb d_Md_cutBest_489 (by decide) ?_
                refine lv_isub hx hb d_Md_cutBest_490 ?_
                refine lv_iload hx hb d_Md_cutBest_491 (lv_at hl 0 rfl) ?_
                obtain ⟨q80, hq80, hf⟩ := op_b hf
                have hPc := hP
                have hDc := hD
                have hFc := va_free (wc := (w_Md_ h_md ad_md tC md)) hD hS hA [0, 1, 2, 3, 4, 5, 6, 7, 8, 9, 10, 11, 12, 13, 14, 15, 16, 17, 18, 19, 20, 21, 22, 23, 24, 25, 26, 27, 28, 29, 30, 31, 32, 33, 34, 35, 36] rfl
                refine wr_go (va_runV (As := [.int ((md.1 5) - 1), .int x9]) (rest := []) ⟨hx, hb, hml, hown, hts⟩ (m_Md_put l dC dI tC h_md ad_md md ((md.1 5) - 1) x9 q80 hq80 _) (cwV 2 hts (gd_V kM_9_189 kI_Md_put kV_Md_put kZ_9 kC_Md_put) rfl rfl rfl (by decide +kernel) ⟨(Nat.le_of_ble_eq_true rfl), (Nat.le_of_ble_eq_true rfl)⟩) ⟨wr_blind, va_recv hK hP (ci := 9) (q0 := 0) rfl rfl, wr_pre hK hPc hDc⟩ rfl rfl hl.1 rfl (lv_room (Nat.le_of_ble_eq_true rfl)) d_Md_cutBest_493 ⟨(Nat.le_of_ble_eq_true rfl), (Nat.le_of_ble_eq_true rfl)⟩) hS hFc (fun r w1 H1 locs hw hP1 hD1 hk1 hS => ?_)
                obtain ⟨rfl, rfl⟩ := hw
                have hP := hP1
                have hD := hD1.weaken (fun _ q _ h => hFc q.1 h)
                clear hP1 hD1 hk1 hPc hDc hFc
                have hP : va_P (dC, dI) vwCl (w_Md_ h_md ad_md tC q80.2) _ := hP
                have hD : va_D A (w_Md_ h_md ad_md tC q80.2) := hD
                refine W.eq (g2 := F0 m 496 ls []) rfl ?_
                refine lv_iinc (v := x9 + 1) (lv' := [(9, .int (x9 + 1)), (8, .int x8), (6, .long x6), (5, .int x5), (3, .long x3), (2, .int x2), (0, .ref h_md), (1, .int x1)]) hx hb d_Md_cutBest_496 hl (k := 0) rfl rfl (by decide) rfl (fun ls hl => ?_)
                refine lv_goto (tgt := 452) hx hb d_Md_cutBest_499 (by decide) ?_
                exact ih_452 x1 x2 x3 x5 x6 x8 (x9 + 1) q80.2 Rl hf _ _ hP hD hS _ (lv_sub hl [0, 1, 2, 3, 4, 5, 6, 7] rfl) Kk
        obtain ⟨q76, hq76, hf⟩ := op_b hf
        refine lp_452 fu x1 x2 x3 x5 x6 x8 0 q75.2 q76 hq76 _ _ hP hD hS _ (lv_sub hl [0, 1, 2, 3, 4, 5, 6, 7] rfl) ?_
        intro H locs hP hD hS ls hl
        refine lv_iinc (v := x8 + 1) (lv' := [(8, .int (x8 + 1)), (9, .int q76.1), (6, .long x6), (5, .int x5), (3, .long x3), (2, .int x2), (0, .ref h_md), (1, .int x1)]) hx hb d_Md_cutBest_502 hl (k := 1) rfl rfl (by decide) rfl (fun ls hl => ?_)
        refine lv_goto (tgt := 431) hx hb d_Md_cutBest_505 (by decide) ?_
        exact ih_431 x1 x2 x3 x5 x6 (x8 + 1) q76.2 Rl hf _ _ hP hD hS _ (lv_sub hl [0, 2, 3, 4, 5, 6, 7] rfl) Kk
  obtain ⟨q72, hq72, hf⟩ := op_b hf
  refine lp_431 fu p1 q8.1 q8.2.1 q8.2.2.1 q8.2.2.2.1 0 q8.2.2.2.2 q72 hq72 _ _ hP hD hS _ (lv_sub hl [0, 1, 2, 3, 4, 5, 6] rfl) ?_
  intro H locs hP hD hS ls hl
  refine lv_lload_n hx hb d_Md_cutBest_508 rfl (lv_at hl 3 rfl) ?_
  refine lv_lconst (v := 0) hx hb d_Md_cutBest_509 (by decide) ?_
  refine W.lcmp hx hb d_Md_cutBest_510 ?_
  refine lv_if_lt (tgt := 518) hx hb d_Md_cutBest_511 (by decide) (fun c81 => ?_) (fun c81 => ?_)
  · have c81 := (lg_cmp_lt _ _).mp c81
    have hf := op_t hf c81
    refine lv_iconst (v := 0) hx hb d_Md_cutBest_518 (by decide) ?_
    obtain rfl := Option.some.inj hf
    subst hQ
    subst hAe
    exact W.zret (v := 0) (ty := .boolean) hx hb hr (by decide) (fun t ht hW => ⟨⟨_, _, rfl, ⟨rfl, rfl⟩, by rw [ht]; exact hP, hD⟩, hS.F ht⟩) hS.2.2 d_Md_cutBest_519
  · have c81 := fun h9 => c81 ((lg_cmp_lt _ _).mpr h9)
    have hf := op_e hf c81
    refine lv_iconst (v := 1) hx hb d_Md_cutBest_514 (by decide) ?_
    refine lv_goto (tgt := 519) hx hb d_Md_cutBest_515 (by decide) ?_
    obtain rfl := Option.some.inj hf
    subst hQ
    subst hAe
    exact W.zret (v := 1) (ty := .boolean) hx hb hr (by decide) (fun t ht hW => ⟨⟨_, _, rfl, ⟨rfl, rfl⟩, by rw [ht]; exact hP, hD⟩, hS.F ht⟩) hS.2.2 d_Md_cutBest_519
def l_Md_run_84 : Nat → Int64 → Int32 → Int32 → MS → Option (Int32 × MS)
  | 0, _, _, _, _ => none
  | n + 1, x1, x3, x4, md => (if 3 ≤ x4 then some (x4, md) else if ix x3 41 then (if ((md.2.1 7) x3.toNatClampNeg) ≤ x4 then if ix x4 3 then (some (sA md 9 (upd (md.2.1 9) x4.toNatClampNeg 0))).bind fun md17 => l_Md_run_84 n x1 x3 (x4 + 1) md17 else none else if ix ((3 * x3) + x4) 123 then if ix x4 3 then (some (sA md 9 (upd (md.2.1 9) x4.toNatClampNeg ((md.2.1 8) ((3 * x3) + x4).toNatClampNeg)))).bind fun md20 => l_Md_run_84 n x1 x3 (x4 + 1) md20 else none else none) else none)
def l_Md_run_63 : Nat → Int64 → Int32 → MS → Option (Int32 × MS)
  | 0, _, _, _ => none
  | n + 1, x1, x3, md => (if 40 < x3 then (some (sI md 4 1)).bind fun md9 => some (md9.1 5, md9) else (f_Md_findPieces md x3).bind fun q10 => (if (q10.2.1 3) ≤ 0 then l_Md_run_63 n x1 (x3 + 1) q10.2 else (l_Md_run_84 fu x1 x3 0 q10.2).bind fun q12 => (some (sI q12.2 6 ((q12.2.1 6) + 1))).bind fun md21 => ((if x1 < ((md21.1 3).toInt64) then some (0) else some (1)) : Option (Int32)).bind fun q23 => (some (sI md21 7 ((md21.1 7) + q23))).bind fun md24 => (if x1 < ((md24.1 3).toInt64) then (f_Md_cutInTurn md24 x3).bind fun q26 => (if q26.1 = 0 then some ((-1), q26.2) else l_Md_run_63 n x1 (x3 + 1) q26.2) else (f_Md_cutBest md24 x3).bind fun q28 => (if q28.1 = 0 then some ((-1), q28.2) else l_Md_run_63 n x1 (x3 + 1) q28.2))))
def l_Md_run_35 : Nat → Int64 → Int32 → MS → Option (Int32 × MS)
  | 0, _, _, _ => none
  | n + 1, x1, x3, md => (if (md.1 2) ≤ x3 then l_Md_run_63 fu x1 4 md else (f_Md_lengthOf md x3).bind fun q30 => (if q30 = 0 then some ((-1), md) else l_Md_run_35 n x1 (x3 + 1) md))
def f_Md_run (md : MS) (p1 : Int64) : Option (Int32 × MS) := (f_Md_isIn p1 0 8).bind fun q1 => (if q1 = 0 then some ((-1), md) else (some (sI md 4 0)).bind fun md3 => (some (sI md3 5 0)).bind fun md4 => (some (sI md4 6 0)).bind fun md5 => (some (sI md5 7 0)).bind fun md6 => l_Md_run_35 fu p1 0 md6)
def rm_Md_run : Room := { frames := 3, cells := 0, slots := 0, locals := 73 }
set_option maxHeartbeats 4000000 in
set_option maxRecDepth 100000 in
theorem m_Md_run (l : Launch) (dC : Nat → ClassId) (dI : Nat → Nat → Nat) (tC : Nat → ClassId) (h_md : Nat) (ad_md : Nat → Nat) (md : MS) (p1 : Int64) (R : Int32 × MS) (hf : f_Md_run md p1 = some R) (sz : Nat) : Met l y_Md_run w_Md_run rm_Md_run (wrP (dC, dI) tC (w_Md_ h_md ad_md tC md) sz [.ref h_md, .long p1]) (wrQ (dC, dI) (w_Md_ h_md ad_md tC md) sz (fun r w => r = (some (.int R.1)) ∧ w = (w_Md_ h_md ad_md tC R.2))) 0 0 (va_A (w_Md_ h_md ad_md tC md) sz) := by
  refine Met.ofW (cc := c_Md_run) (maxL := 5) (ret := (some (.int))) (by decide) rfl ?_
  intro p e s m args below meth c s₁ B hml hv
  obtain ⟨hav, hsz, hP, hK, hD0⟩ := hv
  have hx := B.exec
  have hb := B.bytes
  have hr := B.returns
  have hts : ∀ w ∈ gw, w.before args s = true := fun w h => atoms_spec (ws := w_Md_run) B.pre w (List.mem_cons_of_mem _ h)
  have hown : s.vm.findClass RX9 = some m.cls := findClass_of_methodNamed B.named
  have hlocks := B.notSynchronized
  subst hsz
  have hD := hD0.self (sz := s.heap.size)
  obtain ⟨A, hAe⟩ : ∃ z, z = va_A (w_Md_ h_md ad_md tC md) s.heap.size := ⟨_, rfl⟩
  rw [← hAe] at hD
  have hA : ∀ q : Nat, s.heap.size ≤ q → A q := fun q h => by rw [hAe]; exact Or.inr h
  have hS : va_S A s.heap s.heap [] := va_S.rf
  refine q_w (R := rm_Md_run) (fun Q hQ => ?_)
  refine en_w (av := [.ref h_md, .long p1]) hav (Nat.le_of_ble_eq_true rfl) (fun ls hl => ?_)
  have hl : lv_has ls 5 [(0, .ref h_md), (1, .long p1)] := hl
  unfold f_Md_run at hf
  refine lv_lload_n hx hb d_Md_run_0 rfl (lv_at hl 1 rfl) ?_
  refine lv_lconst (v := 0) hx hb d_Md_run_1 (by decide) ?_
  refine lv_ldc2 (v := 8) hx hb hown (hts _ kK_9_198) d_Md_run_2 ?_
  obtain ⟨q1, hq1, hf⟩ := op_b hf
  refine ro_go rfl (va_runS (As := [.long p1, .long 0, .long 8]) (rest := []) ⟨hx, hb, hml, hown, hts⟩ (m_Md_isIn l dC dI tC p1 0 8 q1 _  hq1) (cwS 3 hts (gd_S kM_9_128 kS_Md_isIn kZ_9 kC_Md_isIn) rfl rfl rfl (by decide +kernel) ⟨(Nat.le_of_ble_eq_true rfl), (Nat.le_of_ble_eq_true rfl)⟩) ⟨ro_blind, ro_pre hK⟩ rfl rfl hl.1 rfl (lv_room (Nat.le_of_ble_eq_true rfl)) d_Md_run_5 ⟨(Nat.le_of_ble_eq_true rfl), (Nat.le_of_ble_eq_true rfl)⟩) ?_
  refine W.eq (g2 := F0 m 8 ls [.int q1]) rfl ?_
  refine lv_if_ne (tgt := 13) hx hb d_Md_run_8 (by decide) (fun c2 => ?_) (fun c2 => ?_)
  · have hf := op_e hf c2
    refine lv_aload_n hx hb d_Md_run_13 rfl (lv_at hl 0 rfl) ?_
    refine lv_iconst (v := 0) hx hb d_Md_run_14 (by decide) ?_
    refine va_put (D := (dC, dI)) (ci := 9) (v := .int 0) (ty := .boolean) (C := RX9) (T := TX9) (N := 46) hx hb hts in_X9 tyX9 tyX9_ok nmX9 hown hK hP hD hS 0 (fs := [.ref (ad_md 0), .int (md.1 0), .int (md.1 1), .ref (ad_md 1), .ref (ad_md 2), .ref (ad_md 3), .int (md.1 2), .ref (ad_md 4), .ref (ad_md 5), .ref (ad_md 6), .ref (ad_md 7), .ref (ad_md 8), .ref (ad_md 9), .ref (ad_md 10), .ref (ad_md 11), .ref (ad_md 12), .ref (ad_md 13), .ref (ad_md 14), .ref (ad_md 15), .int (md.1 3), .ref (ad_md 16), .ref (ad_md 17), .ref (ad_md 18), .ref (ad_md 19), .ref (ad_md 20), .ref (ad_md 21), .ref (ad_md 22), .int (md.1 4), .int (md.1 5), .ref (ad_md 23), .ref (ad_md 24), .ref (ad_md 25), .ref (ad_md 26), .ref (ad_md 27), .int (md.1 6), .int (md.1 7), .int (md.1 8), .ref (ad_md 28), .ref (ad_md 29), .ref (ad_md 30), .ref (ad_md 31), .ref (ad_md 32), .ref (ad_md 33), .ref (ad_md 34), .ref (ad_md 35), .int (md.1 9)]) rfl rfl 27 (by decide) (hts _ kF_9_148) (fun _ h9 => h9) rfl (by decide +kernel) (by decide) (by decide) (Nat.le_of_ble_eq_true rfl) d_Md_run_15 (fun H locs hP hD hS => ?_)
    rw [wu_Md_s4] at hP hD
    obtain ⟨md3, hmd3, hf⟩ := op_b hf
    have hP : va_P (dC, dI) vwCl (w_Md_ h_md ad_md tC md3) H := by rw [← Option.some.inj hmd3]; exact hP
    have hD : va_D A (w_Md_ h_md ad_md tC md3) := by rw [← Option.some.inj hmd3]; exact hD
    refine lv_aload_n hx hb d_Md_run_18 rfl (lv_at hl 0 rfl) ?_
    refine lv_iconst (v := 0) hx hb d_Md_run_19 (by decide) ?_
    refine va_put (D := (dC, dI)) (ci := 9) (v := .int 0) (ty := .int) (C := RX9) (T := TX9) (N := 46) hx hb hts in_X9 tyX9 tyX9_ok nmX9 hown hK hP hD hS 0 (fs := [.ref (ad_md 0), .int (md3.1 0), .int (md3.1 1), .ref (ad_md 1), .ref (ad_md 2), .ref (ad_md 3), .int (md3.1 2), .ref (ad_md 4), .ref (ad_md 5), .ref (ad_md 6), .ref (ad_md 7), .ref (ad_md 8), .ref (ad_md 9), .ref (ad_md 10), .ref (ad_md 11), .ref (ad_md 12), .ref (ad_md 13), .ref (ad_md 14), .ref (ad_md 15), .int (md3.1 3), .ref (ad_md 16), .ref (ad_md 17), .ref (ad_md 18), .ref (ad_md 19), .ref (ad_md 20), .ref (ad_md 21), .ref (ad_md 22), .int (md3.1 4), .int (md3.1 5), .ref (ad_md 23), .ref (ad_md 24), .ref (ad_md 25), .ref (ad_md 26), .ref (ad_md 27), .int (md3.1 6), .int (md3.1 7), .int (md3.1 8), .ref (ad_md 28), .ref (ad_md 29), .ref (ad_md 30), .ref (ad_md 31), .ref (ad_md 32), .ref (ad_md 33), .ref (ad_md 34), .ref (ad_md 35), .int (md3.1 9)]) rfl rfl 28 (by decide) (hts _ kF_9_178) (fun _ h9 => h9) rfl (by decide +kernel) (rfl) (rfl) (Nat.le_of_ble_eq_true rfl) d_Md_run_20 (fun H locs hP hD hS => ?_)
    rw [wu_Md_s5] at hP hD
    obtain ⟨md4, hmd4, hf⟩ := op_b hf
    have hP : va_P (dC, dI) vwCl (w_Md_ h_md ad_md tC md4) H := by rw [← Option.some.inj hmd4]; exact hP
    have hD : va_D A (w_Md_ h_md ad_md tC md4) := by rw [← Option.some.inj hmd4]; exact hD
    refine lv_aload_n hx hb d_Md_run_23 rfl (lv_at hl 0 rfl) ?_
    refine lv_iconst (v := 0) hx hb d_Md_run_24 (by decide) ?_
    refine va_put (D := (dC, dI)) (ci := 9) (v := .int 0) (ty := .int) (C := RX9) (T := TX9) (N := 46) hx hb hts in_X9 tyX9 tyX9_ok nmX9 hown hK hP hD hS 0 (fs := [.ref (ad_md 0), .int (md4.1 0), .int (md4.1 1), .ref (ad_md 1), .ref (ad_md 2), .ref (ad_md 3), .int (md4.1 2), .ref (ad_md 4), .ref (ad_md 5), .ref (ad_md 6), .ref (ad_md 7), .ref (ad_md 8), .ref (ad_md 9), .ref (ad_md 10), .ref (ad_md 11), .ref (ad_md 12), .ref (ad_md 13), .ref (ad_md 14), .ref (ad_md 15), .int (md4.1 3), .ref (ad_md 16), .ref (ad_md 17), .ref (ad_md 18), .ref (ad_md 19), .ref (ad_md 20), .ref (ad_md 21), .ref (ad_md 22), .int (md4.1 4), .int (md4.1 5), .ref (ad_md 23), .ref (ad_md 24), .ref (ad_md 25), .ref (ad_md 26), .ref (ad_md 27), .int (md4.1 6), .int (md4.1 7), .int (md4.1 8), .ref (ad_md 28), .ref (ad_md 29), .ref (ad_md 30), .ref (ad_md 31), .ref (ad_md 32), .ref (ad_md 33), .ref (ad_md 34), .ref (ad_md 35), .int (md4.1 9)]) rfl rfl 34 (by decide) (hts _ kF_9_200) (fun _ h9 => h9) rfl (by decide +kernel) (rfl) (rfl) (Nat.le_of_ble_eq_true rfl) d_Md_run_25 (fun H locs hP hD hS => ?_)
    rw [wu_Md_s6] at hP hD
    obtain ⟨md5, hmd5, hf⟩ := op_b hf
    have hP : va_P (dC, dI) vwCl (w_Md_ h_md ad_md tC md5) H := by rw [← Option.some.inj hmd5]; exact hP
    have hD : va_D A (w_Md_ h_md ad_md tC md5) := by rw [← Option.some.inj hmd5]; exact hD
    refine lv_aload_n hx hb d_Md_run_28 rfl (lv_at hl 0 rfl) ?_
    refine lv_iconst (v := 0) hx hb d_Md_run_29 (by decide) ?_
    refine va_put (D := (dC, dI)) (ci := 9) (v := .int 0) (ty := .int) (C := RX9) (T := TX9) (N := 46) hx hb hts in_X9 tyX9 tyX9_ok nmX9 hown hK hP hD hS 0 (fs := [.ref (ad_md 0), .int (md5.1 0), .int (md5.1 1), .ref (ad_md 1), .ref (ad_md 2), .ref (ad_md 3), .int (md5.1 2), .ref (ad_md 4), .ref (ad_md 5), .ref (ad_md 6), .ref (ad_md 7), .ref (ad_md 8), .ref (ad_md 9), .ref (ad_md 10), .ref (ad_md 11), .ref (ad_md 12), .ref (ad_md 13), .ref (ad_md 14), .ref (ad_md 15), .int (md5.1 3), .ref (ad_md 16), .ref (ad_md 17), .ref (ad_md 18), .ref (ad_md 19), .ref (ad_md 20), .ref (ad_md 21), .ref (ad_md 22), .int (md5.1 4), .int (md5.1 5), .ref (ad_md 23), .ref (ad_md 24), .ref (ad_md 25), .ref (ad_md 26), .ref (ad_md 27), .int (md5.1 6), .int (md5.1 7), .int (md5.1 8), .ref (ad_md 28), .ref (ad_md 29), .ref (ad_md 30), .ref (ad_md 31), .ref (ad_md 32), .ref (ad_md 33), .ref (ad_md 34), .ref (ad_md 35), .int (md5.1 9)]) rfl rfl 35 (by decide) (hts _ kF_9_203) (fun _ h9 => h9) rfl (by decide +kernel) (rfl) (rfl) (Nat.le_of_ble_eq_true rfl) d_Md_run_30 (fun H locs hP hD hS => ?_)
    rw [wu_Md_s7] at hP hD
    obtain ⟨md6, hmd6, hf⟩ := op_b hf
    have hP : va_P (dC, dI) vwCl (w_Md_ h_md ad_md tC md6) H := by rw [← Option.some.inj hmd6]; exact hP
    have hD : va_D A (w_Md_ h_md ad_md tC md6) := by rw [← Option.some.inj hmd6]; exact hD
    refine lv_iconst (v := 0) hx hb d_Md_run_33 (by decide) ?_
    refine lv_istore_n (lv' := [(3, .int 0), (0, .ref h_md), (1, .long p1)]) hx hb d_Md_run_34 rfl hl (by decide) rfl (fun ls hl => ?_)
    have lp_35 : ∀ (n : Nat) (x1 : Int64) (x3 : Int32) (md : MS), l_Md_run_35 n x1 x3 md = some R → ∀ (H : Heap) (locs : List Loc), va_P (dC, dI) vwCl (w_Md_ h_md ad_md tC md) H → va_D A (w_Md_ h_md ad_md tC md) → va_S A s.heap H locs → ∀ ls : Array Slot, lv_has ls 5 [(3, .int x3), (0, .ref h_md), (1, .long x1)] → W p l e rm_Md_run s m args below meth c H locs 0 0 Q (F0 m 35 ls []) := by
      intro n
      induction n with
      | zero => intro x1 x3 md hf; cases hf
      | succ n ih_35 =>
        intro x1 x3 md hf H locs hP hD hS ls hl
        rw [l_Md_run_35] at hf
        refine lv_iload_n hx hb d_Md_run_35 rfl (lv_at hl 0 rfl) ?_
        refine lv_aload_n hx hb d_Md_run_36 rfl (lv_at hl 1 rfl) ?_
        refine va_get (D := (dC, dI)) (ci := 9) (v := .int (md.1 2)) (C := RX9) (T := TX9) (N := 46) hx hb hts in_X9 hown hK hP 0 rfl rfl 6 (by decide) (hts _ kF_9_120) (fun _ h9 => h9) rfl d_Md_run_37 ?_
        refine lv_icmp_ge (tgt := 61) hx hb d_Md_run_40 (by decide) (fun c7 => ?_) (fun c7 => ?_)
        · have hf := op_t hf c7
          refine lv_iconst (v := 4) hx hb d_Md_run_61 (by decide) ?_
          refine lv_istore_n (lv' := [(3, .int 4), (0, .ref h_md), (1, .long x1)]) hx hb d_Md_run_62 rfl hl (by decide) rfl (fun ls hl => ?_)
          have lp_63 : ∀ (n : Nat) (x1 : Int64) (x3 : Int32) (md : MS), l_Md_run_63 n x1 x3 md = some R → ∀ (H : Heap) (locs : List Loc), va_P (dC, dI) vwCl (w_Md_ h_md ad_md tC md) H → va_D A (w_Md_ h_md ad_md tC md) → va_S A s.heap H locs → ∀ ls : Array Slot, lv_has ls 5 [(3, .int x3), (0, .ref h_md), (1, .long x1)] → W p l e rm_Md_run s m args below meth c H locs 0 0 Q (F0 m 63 ls []) := by
            intro n
            induction n with
            | zero => intro x1 x3 md hf; cases hf
            | succ n ih_63 =>
              intro x1 x3 md hf H locs hP hD hS ls hl
              rw [l_Md_run_63] at hf
              refine lv_iload_n hx hb d_Md_run_63 rfl (lv_at hl 0 rfl) ?_
              refine lv_bipush (v := 40) hx hb d_Md_run_64 (by decide) ?_
              refine lv_icmp_gt (tgt := 200) hx hb d_Md_run_66 (by decide) (fun c8 => ?_) (fun c8 => ?_)
              · have hf := op_t hf c8
                refine lv_aload_n hx hb d_Md_run_200 rfl (lv_at hl 1 rfl) ?_
                refine lv_iconst (v := 1) hx hb d_Md_run_201 (by decide) ?_
                refine va_put (D := (dC, dI)) (ci := 9) (v := .int 1) (ty := .boolean) (C := RX9) (T := TX9) (N := 46) hx hb hts in_X9 tyX9 tyX9_ok nmX9 hown hK hP hD hS 0 (fs := [.ref (ad_md 0), .int (md.1 0), .int (md.1 1), .ref (ad_md 1), .ref (ad_md 2), .ref (ad_md 3), .int (md.1 2), .ref (ad_md 4), .ref (ad_md 5), .ref (ad_md 6), .ref (ad_md 7), .ref (ad_md 8), .ref (ad_md 9), .ref (ad_md 10), .ref (ad_md 11), .ref (ad_md 12), .ref (ad_md 13), .ref (ad_md 14), .ref (ad_md 15), .int (md.1 3), .ref (ad_md 16), .ref (ad_md 17), .ref (ad_md 18), .ref (ad_md 19), .ref (ad_md 20), .ref (ad_md 21), .ref (ad_md 22), .int (md.1 4), .int (md.1 5), .ref (ad_md 23), .ref (ad_md 24), .ref (ad_md 25), .ref (ad_md 26), .ref (ad_md 27), .int (md.1 6), .int (md.1 7), .int (md.1 8), .ref (ad_md 28), .ref (ad_md 29), .ref (ad_md 30), .ref (ad_md 31), .ref (ad_md 32), .ref (ad_md 33), .ref (ad_md 34), .ref (ad_md 35), .int (md.1 9)]) rfl rfl 27 (by decide) (hts _ kF_9_148) (fun _ h9 => h9) rfl (by decide +kernel) (by decide) (by decide) (Nat.le_of_ble_eq_true rfl) d_Md_run_202 (fun H locs hP hD hS => ?_)
                rw [wu_Md_s4] at hP hD
                obtain ⟨md9, hmd9, hf⟩ := op_b hf
                have hP : va_P (dC, dI) vwCl (w_Md_ h_md ad_md tC md9) H := by rw [← Option.some.inj hmd9]; exact hP
                have hD : va_D A (w_Md_ h_md ad_md tC md9) := by rw [← Option.some.inj hmd9]; exact hD
                refine lv_aload_n hx hb d_Md_run_205 rfl (lv_at hl 1 rfl) ?_
                refine va_get (D := (dC, dI)) (ci := 9) (v := .int (md9.1 5)) (C := RX9) (T := TX9) (N := 46) hx hb hts in_X9 hown hK hP 0 rfl rfl 28 (by decide) (hts _ kF_9_178) (fun _ h9 => h9) rfl d_Md_run_206 ?_
                obtain rfl := Option.some.inj hf
                subst hQ
                subst hAe
                exact W.iret (v := md9.1 5) hx hb hr (fun t ht hW => ⟨⟨_, _, rfl, ⟨rfl, rfl⟩, by rw [ht]; exact hP, hD⟩, hS.F ht⟩) hS.2.2 d_Md_run_209
              · have hf := op_e hf c8
                refine lv_aload_n hx hb d_Md_run_69 rfl (lv_at hl 1 rfl) ?_
                refine lv_iload_n hx hb d_Md_run_70 rfl (lv_at hl 0 rfl) ?_
                obtain ⟨q10, hq10, hf⟩ := op_b hf
                have hPc := hP
                have hDc := hD
                have hFc := va_free (wc := (w_Md_ h_md ad_md tC md)) hD hS hA [0, 1, 2, 3, 4, 5, 6, 7, 8, 9, 10, 11, 12, 13, 14, 15, 16, 17, 18, 19, 20, 21, 22, 23, 24, 25, 26, 27, 28, 29, 30, 31, 32, 33, 34, 35, 36] rfl
                refine wr_go (va_runV (As := [.int x3]) (rest := []) ⟨hx, hb, hml, hown, hts⟩ (m_Md_findPieces l dC dI tC h_md ad_md md x3 q10 hq10 _) (cwV 1 hts (gd_V kM_9_206 kI_Md_findPieces kV_Md_findPieces kZ_9 kC_Md_findPieces) rfl rfl rfl (by decide +kernel) ⟨(Nat.le_of_ble_eq_true rfl), (Nat.le_of_ble_eq_true rfl)⟩) ⟨wr_blind, va_recv hK hP (ci := 9) (q0 := 0) rfl rfl, wr_pre hK hPc hDc⟩ rfl rfl hl.1 rfl (lv_room (Nat.le_of_ble_eq_true rfl)) d_Md_run_71 ⟨(Nat.le_of_ble_eq_true rfl), (Nat.le_of_ble_eq_true rfl)⟩) hS hFc (fun r w1 H1 locs hw hP1 hD1 hk1 hS => ?_)
                obtain ⟨rfl, rfl⟩ := hw
                have hP := hP1
                have hD := hD1.weaken (fun _ q _ h => hFc q.1 h)
                clear hP1 hD1 hk1 hPc hDc hFc
                have hP : va_P (dC, dI) vwCl (w_Md_ h_md ad_md tC q10.2) _ := hP
                have hD : va_D A (w_Md_ h_md ad_md tC q10.2) := hD
                refine W.eq (g2 := F0 m 74 ls []) rfl ?_
                refine lv_aload_n hx hb d_Md_run_74 rfl (lv_at hl 1 rfl) ?_
                refine va_get (D := (dC, dI)) (ci := 9) (v := .int (q10.2.1 3)) (C := RX9) (T := TX9) (N := 46) hx hb hts in_X9 hown hK hP 0 rfl rfl 19 (by decide) (hts _ kF_9_175) (fun _ h9 => h9) rfl d_Md_run_75 ?_
                refine lv_if_le (tgt := 194) hx hb d_Md_run_78 (by decide) (fun c11 => ?_) (fun c11 => ?_)
                · have hf := op_t hf c11
                  refine lv_iinc (v := x3 + 1) (lv' := [(3, .int (x3 + 1)), (0, .ref h_md), (1, .long x1)]) hx hb d_Md_run_194 hl (k := 0) rfl rfl (by decide) rfl (fun ls hl => ?_)
                  refine lv_goto (tgt := 63) hx hb d_Md_run_197 (by decide) ?_
                  exact ih_63 x1 (x3 + 1) q10.2 hf _ _ hP hD hS _ (lv_sub hl [0, 1, 2] rfl)
                · have hf := op_e hf c11
                  refine lv_iconst (v := 0) hx hb d_Md_run_81 (by decide) ?_
                  refine lv_istore (lv' := [(4, .int 0), (3, .int x3), (0, .ref h_md), (1, .long x1)]) hx hb d_Md_run_82 hl (by decide) rfl (fun ls hl => ?_)
                  have lp_84 : ∀ (n : Nat) (x1 : Int64) (x3 : Int32) (x4 : Int32) (md : MS) (Rl : Int32 × MS), l_Md_run_84 n x1 x3 x4 md = some Rl → ∀ (H : Heap) (locs : List Loc), va_P (dC, dI) vwCl (w_Md_ h_md ad_md tC md) H → va_D A (w_Md_ h_md ad_md tC md) → va_S A s.heap H locs → ∀ ls : Array Slot, lv_has ls 5 [(4, .int x4), (3, .int x3), (0, .ref h_md), (1, .long x1)] → (∀ (H : Heap) (locs : List Loc), va_P (dC, dI) vwCl (w_Md_ h_md ad_md tC Rl.2) H → va_D A (w_Md_ h_md ad_md tC Rl.2) → va_S A s.heap H locs → ∀ ls : Array Slot, lv_has ls 5 [(4, .int Rl.1), (3, .int x3), (0, .ref h_md), (1, .long x1)] → W p l e rm_Md_run s m args below meth c H locs 0 0 Q (F0 m 129 ls [])) → W p l e rm_Md_run s m args below meth c H locs 0 0 Q (F0 m 84 ls []) := by
                    intro n
                    induction n with
                    | zero => intro x1 x3 x4 md Rl hf; cases hf
                    | succ n ih_84 =>
                      intro x1 x3 x4 md Rl hf H locs hP hD hS ls hl Kk
                      rw [l_Md_run_84] at hf
                      refine lv_iload hx hb d_Md_run_84 (lv_at hl 0 rfl) ?_
                      refine lv_iconst (v := 3) hx hb d_Md_run_86 (by decide) ?_
                      refine lv_icmp_ge (tgt := 129) hx hb d_Md_run_87 (by decide) (fun c13 => ?_) (fun c13 => ?_)
                      · have hf := op_t hf c13
                        obtain rfl := Option.some.inj hf
                        exact Kk _ _ hP hD hS _ (lv_sub hl [0, 1, 2, 3] rfl)
                      · have hf := op_e hf c13
                        refine lv_aload_n hx hb d_Md_run_90 rfl (lv_at hl 2 rfl) ?_
                        refine va_get (D := (dC, dI)) (ci := 9) (v := .ref (ad_md 15)) (C := RX9) (T := TX9) (N := 46) hx hb hts in_X9 hown hK hP 0 rfl rfl 18 (by decide) (hts _ kF_9_57) (fun _ h9 => h9) rfl d_Md_run_91 ?_
                        refine lv_iload hx hb d_Md_run_94 (lv_at hl 0 rfl) ?_
                        refine lv_iload hx hb d_Md_run_96 (lv_at hl 0 rfl) ?_
                        refine lv_aload_n hx hb d_Md_run_98 rfl (lv_at hl 2 rfl) ?_
                        refine va_get (D := (dC, dI)) (ci := 9) (v := .ref (ad_md 12)) (C := RX9) (T := TX9) (N := 46) hx hb hts in_X9 hown hK hP 0 rfl rfl 15 (by decide) (hts _ kF_9_48) (fun _ h9 => h9) rfl d_Md_run_99 ?_
                        refine lv_iload_n hx hb d_Md_run_102 rfl (lv_at hl 1 rfl) ?_
                        obtain ⟨hi14, hf⟩ := op_if hf
                        refine va_iald (f := md.2.1 7) hx hb hK hP 13 0 rfl rfl (ix_in hi14) d_Md_run_103 ?_
                        refine lv_icmp_ge (tgt := 121) hx hb d_Md_run_104 (by decide) (fun c15 => ?_) (fun c15 => ?_)
                        · have hf := op_t hf c15
                          refine lv_iconst (v := 0) hx hb d_Md_run_121 (by decide) ?_
                          obtain ⟨hi16, hf⟩ := op_if hf
                          refine va_iast (f := md.2.1 9) hx hb hK hP hD hS 16 0 rfl rfl (ix_in hi16) d_Md_run_122 (fun H locs hP hD hS => ?_)
                          rw [wu_Md_a9] at hP hD
                          obtain ⟨md17, hmd17, hf⟩ := op_b hf
                          have hP : va_P (dC, dI) vwCl (w_Md_ h_md ad_md tC md17) H := by rw [← Option.some.inj hmd17]; exact hP
                          have hD : va_D A (w_Md_ h_md ad_md tC md17) := by rw [← Option.some.inj hmd17]; exact hD
                          refine lv_iinc (v := x4 + 1) (lv' := [(4, .int (x4 + 1)), (3, .int x3), (0, .ref h_md), (1, .long x1)]) hx hb d_Md_run_123 hl (k := 0) rfl rfl (by decide) rfl (fun ls hl => ?_)
                          refine lv_goto (tgt := 84) hx hb d_Md_run_126 (by decide) ?_
                          exact ih_84 x1 x3 (x4 + 1) md17 Rl hf _ _ hP hD hS _ (lv_sub hl [0, 1, 2, 3] rfl) Kk
                        · have hf := op_e hf c15
                          refine lv_aload_n hx hb d_Md_run_107 rfl (lv_at hl 2 rfl) ?_
                          refine va_get (D := (dC, dI)) (ci := 9) (v := .ref (ad_md 14)) (C := RX9) (T := TX9) (N := 46) hx hb hts in_X9 hown hK hP 0 rfl rfl 17 (by decide) (hts _ kF_9_54) (fun _ h9 => h9) rfl d_Md_run_108 ?_
                          refine lv_iconst (v := 3) hx hb d_Md_run_111 (by decide) ?_
                          refine lv_iload_n hx hb d_Md_run_112 rfl (lv_at hl 1 rfl) ?_
                          refine lv_imul hx hb d_Md_run_113 ?_
                          refine lv_iload hx hb d_Md_run_114 (lv_at hl 0 rfl) ?_
                          refine lv_iadd hx hb d_Md_run_116 ?_
                          obtain ⟨hi18, hf⟩ := op_if hf
                          refine va_iald (f := md.2.1 8) hx hb hK hP 15 0 rfl rfl (ix_in hi18) d_Md_run_117 ?_
                          refine lv_goto (tgt := 122) hx hb d_Md_run_118 (by decide) ?_
                          obtain ⟨hi19, hf⟩ := op_if hf
                          refine va_iast (f := md.2.1 9) hx hb hK hP hD hS 16 0 rfl rfl (ix_in hi19) d_Md_run_122 (fun H locs hP hD hS => ?_)
                          rw [wu_Md_a9] at hP hD
                          obtain ⟨md20, hmd20, hf⟩ := op_b hf
                          have hP : va_P (dC, dI) vwCl (w_Md_ h_md ad_md tC md20) H := by rw [← Option.some.inj hmd20]; exact hP
                          have hD : va_D A (w_Md_ h_md ad_md tC md20) := by rw [← Option.some.inj hmd20]; exact hD
                          refine lv_iinc (v := x4 + 1) (lv' := [(4, .int (x4 + 1)), (3, .int x3), (0, .ref h_md), (1, .long x1)]) hx hb d_Md_run_123 hl (k := 0) rfl rfl (by decide) rfl (fun ls hl => ?_)
                          refine lv_goto (tgt := 84) hx hb d_Md_run_126 (by decide) ?_
                          exact ih_84 x1 x3 (x4 + 1) md20 Rl hf _ _ hP hD hS _ (lv_sub hl [0, 1, 2, 3] rfl) Kk
                  obtain ⟨q12, hq12, hf⟩ := op_b hf
                  refine lp_84 fu x1 x3 0 q10.2 q12 hq12 _ _ hP hD hS _ (lv_sub hl [0, 1, 2, 3] rfl) ?_
                  intro H locs hP hD hS ls hl
                  refine lv_aload_n hx hb d_Md_run_129 rfl (lv_at hl 2 rfl) ?_
                  refine lv_dup hx hb d_Md_run_130 rfl ?_
                  refine va_get (D := (dC, dI)) (ci := 9) (v := .int (q12.2.1 6)) (C := RX9) (T := TX9) (N := 46) hx hb hts in_X9 hown hK hP 0 rfl rfl 34 (by decide) (hts _ kF_9_200) (fun _ h9 => h9) rfl d_Md_run_131 ?_
                  refine lv_iconst (v := 1) hx hb d_Md_run_134 (by decide) ?_
                  refine lv_iadd hx hb d_Md_run_135 ?_
                  refine va_put (D := (dC, dI)) (ci := 9) (v := .int ((q12.2.1 6) + 1)) (ty := .int) (C := RX9) (T := TX9) (N := 46) hx hb hts in_X9 tyX9 tyX9_ok nmX9 hown hK hP hD hS 0 (fs := [.ref (ad_md 0), .int (q12.2.1 0), .int (q12.2.1 1), .ref (ad_md 1), .ref (ad_md 2), .ref (ad_md 3), .int (q12.2.1 2), .ref (ad_md 4), .ref (ad_md 5), .ref (ad_md 6), .ref (ad_md 7), .ref (ad_md 8), .ref (ad_md 9), .ref (ad_md 10), .ref (ad_md 11), .ref (ad_md 12), .ref (ad_md 13), .ref (ad_md 14), .ref (ad_md 15), .int (q12.2.1 3), .ref (ad_md 16), .ref (ad_md 17), .ref (ad_md 18), .ref (ad_md 19), .ref (ad_md 20), .ref (ad_md 21), .ref (ad_md 22), .int (q12.2.1 4), .int (q12.2.1 5), .ref (ad_md 23), .ref (ad_md 24), .ref (ad_md 25), .ref (ad_md 26), .ref (ad_md 27), .int (q12.2.1 6), .int (q12.2.1 7), .int (q12.2.1 8), .ref (ad_md 28), .ref (ad_md 29), .ref (ad_md 30), .ref (ad_md 31), .ref (ad_md 32), .ref (ad_md 33), .ref (ad_md 34), .ref (ad_md 35), .int (q12.2.1 9)]) rfl rfl 34 (by decide) (hts _ kF_9_200) (fun _ h9 => h9) rfl (by decide +kernel) (rfl) (rfl) (Nat.le_of_ble_eq_true rfl) d_Md_run_136 (fun H locs hP hD hS => ?_)
                  rw [wu_Md_s6] at hP hD
                  obtain ⟨md21, hmd21, hf⟩ := op_b hf
                  have hP : va_P (dC, dI) vwCl (w_Md_ h_md ad_md tC md21) H := by rw [← Option.some.inj hmd21]; exact hP
                  have hD : va_D A (w_Md_ h_md ad_md tC md21) := by rw [← Option.some.inj hmd21]; exact hD
                  refine lv_aload_n hx hb d_Md_run_139 rfl (lv_at hl 2 rfl) ?_
                  refine lv_dup hx hb d_Md_run_140 rfl ?_
                  refine va_get (D := (dC, dI)) (ci := 9) (v := .int (md21.1 7)) (C := RX9) (T := TX9) (N := 46) hx hb hts in_X9 hown hK hP 0 rfl rfl 35 (by decide) (hts _ kF_9_203) (fun _ h9 => h9) rfl d_Md_run_141 ?_
                  refine lv_aload_n hx hb d_Md_run_144 rfl (lv_at hl 2 rfl) ?_
                  refine va_get (D := (dC, dI)) (ci := 9) (v := .int (md21.1 3)) (C := RX9) (T := TX9) (N := 46) hx hb hts in_X9 hown hK hP 0 rfl rfl 19 (by decide) (hts _ kF_9_175) (fun _ h9 => h9) rfl d_Md_run_145 ?_
                  refine lv_i2l (v := (md21.1 3).toInt64) hx hb d_Md_run_148 rfl ?_
                  refine lv_lload_n hx hb d_Md_run_149 rfl (lv_at hl 3 rfl) ?_
                  refine W.lcmp hx hb d_Md_run_150 ?_
                  obtain ⟨q23, hq23, hf⟩ := op_b hf
                  have J_151 : ∀ (H : Heap) (locs : List Loc), va_P (dC, dI) vwCl (w_Md_ h_md ad_md tC md21) H → va_D A (w_Md_ h_md ad_md tC md21) → va_S A s.heap H locs → ∀ ls : Array Slot, lv_has ls 5 [(4, .int q12.1), (3, .int x3), (0, .ref h_md), (1, .long x1)] → W p l e rm_Md_run s m args below meth c H locs 0 0 Q (F0 m 159 ls [.int q23, .int (md21.1 7), .ref h_md]) := by
                    intro H locs hP hD hS ls hl
                    refine lv_iadd hx hb d_Md_run_159 ?_
                    refine va_put (D := (dC, dI)) (ci := 9) (v := .int ((md21.1 7) + q23)) (ty := .int) (C := RX9) (T := TX9) (N := 46) hx hb hts in_X9 tyX9 tyX9_ok nmX9 hown hK hP hD hS 0 (fs := [.ref (ad_md 0), .int (md21.1 0), .int (md21.1 1), .ref (ad_md 1), .ref (ad_md 2), .ref (ad_md 3), .int (md21.1 2), .ref (ad_md 4), .ref (ad_md 5), .ref (ad_md 6), .ref (ad_md 7), .ref (ad_md 8), .ref (ad_md 9), .ref (ad_md 10), .ref (ad_md 11), .ref (ad_md 12), .ref (ad_md 13), .ref (ad_md 14), .ref (ad_md 15), .int (md21.1 3), .ref (ad_md 16), .ref (ad_md 17), .ref (ad_md 18), .ref (ad_md 19), .ref (ad_md 20), .ref (ad_md 21), .ref (ad_md 22), .int (md21.1 4), .int (md21.1 5), .ref (ad_md 23), .ref (ad_md 24), .ref (ad_md 25), .ref (ad_md 26), .ref (ad_md 27), .int (md21.1 6), .int (md21.1 7), .int (md21.1 8), .ref (ad_md 28), .ref (ad_md 29), .ref (ad_md 30), .ref (ad_md 31), .ref (ad_md 32), .ref (ad_md 33), .ref (ad_md 34), .ref (ad_md 35), .int (md21.1 9)]) rfl rfl 35 (by decide) (hts _ kF_9_203) (fun _ h9 => h9) rfl (by decide +kernel) (rfl) (rfl) (Nat.le_of_ble_eq_true rfl) d_Md_run_160 (fun H locs hP hD hS => ?_)
                    rw [wu_Md_s7] at hP hD
                    obtain ⟨md24, hmd24, hf⟩ := op_b hf
                    have hP : va_P (dC, dI) vwCl (w_Md_ h_md ad_md tC md24) H := by rw [← Option.some.inj hmd24]; exact hP
                    have hD : va_D A (w_Md_ h_md ad_md tC md24) := by rw [← Option.some.inj hmd24]; exact hD
                    refine lv_aload_n hx hb d_Md_run_163 rfl (lv_at hl 2 rfl) ?_
                    refine va_get (D := (dC, dI)) (ci := 9) (v := .int (md24.1 3)) (C := RX9) (T := TX9) (N := 46) hx hb hts in_X9 hown hK hP 0 rfl rfl 19 (by decide) (hts _ kF_9_175) (fun _ h9 => h9) rfl d_Md_run_164 ?_
                    refine lv_i2l (v := (md24.1 3).toInt64) hx hb d_Md_run_167 rfl ?_
                    refine lv_lload_n hx hb d_Md_run_168 rfl (lv_at hl 3 rfl) ?_
                    refine W.lcmp hx hb d_Md_run_169 ?_
                    refine lv_if_gt (tgt := 184) hx hb d_Md_run_170 (by decide) (fun c25 => ?_) (fun c25 => ?_)
                    · have c25 := (lg_cmp_gt _ _).mp c25
                      have hf := op_t hf c25
                      refine lv_aload_n hx hb d_Md_run_184 rfl (lv_at hl 2 rfl) ?_
                      refine lv_iload_n hx hb d_Md_run_185 rfl (lv_at hl 1 rfl) ?_
                      obtain ⟨q26, hq26, hf⟩ := op_b hf
                      have hPc := hP
                      have hDc := hD
                      have hFc := va_free (wc := (w_Md_ h_md ad_md tC md24)) hD hS hA [0, 1, 2, 3, 4, 5, 6, 7, 8, 9, 10, 11, 12, 13, 14, 15, 16, 17, 18, 19, 20, 21, 22, 23, 24, 25, 26, 27, 28, 29, 30, 31, 32, 33, 34, 35, 36] rfl
                      refine wr_go (va_runV (As := [.int x3]) (rest := []) ⟨hx, hb, hml, hown, hts⟩ (m_Md_cutInTurn l dC dI tC h_md ad_md md24 x3 q26 hq26 _) (cwV 1 hts (gd_V kM_9_213 kI_Md_cutInTurn kV_Md_cutInTurn kZ_9 kC_Md_cutInTurn) rfl rfl rfl (by decide +kernel) ⟨(Nat.le_of_ble_eq_true rfl), (Nat.le_of_ble_eq_true rfl)⟩) ⟨wr_blind, va_recv hK hP (ci := 9) (q0 := 0) rfl rfl, wr_pre hK hPc hDc⟩ rfl rfl hl.1 rfl (lv_room (Nat.le_of_ble_eq_true rfl)) d_Md_run_186 ⟨(Nat.le_of_ble_eq_true rfl), (Nat.le_of_ble_eq_true rfl)⟩) hS hFc (fun r w1 H1 locs hw hP1 hD1 hk1 hS => ?_)
                      obtain ⟨rfl, rfl⟩ := hw
                      have hP := hP1
                      have hD := hD1.weaken (fun _ q _ h => hFc q.1 h)
                      clear hP1 hD1 hk1 hPc hDc hFc
                      have hP : va_P (dC, dI) vwCl (w_Md_ h_md ad_md tC q26.2) _ := hP
                      have hD : va_D A (w_Md_ h_md ad_md tC q26.2) := hD
                      refine W.eq (g2 := F0 m 189 ls [.int q26.1]) rfl ?_
                      refine lv_if_ne (tgt := 194) hx hb d_Md_run_189 (by decide) (fun c27 => ?_) (fun c27 => ?_)
                      · have hf := op_e hf c27
                        refine lv_iinc (v := x3 + 1) (lv' := [(3, .int (x3 + 1)), (4, .int q12.1), (0, .ref h_md), (1, .long x1)]) hx hb d_Md_run_194 hl (k := 1) rfl rfl (by decide) rfl (fun ls hl => ?_)
                        refine lv_goto (tgt := 63) hx hb d_Md_run_197 (by decide) ?_
                        exact ih_63 x1 (x3 + 1) q26.2 hf _ _ hP hD hS _ (lv_sub hl [0, 2, 3] rfl)
                      · have hf := op_t hf c27
                        refine lv_iconst (v := (-1)) hx hb d_Md_run_192 (by decide) ?_
                        obtain rfl := Option.some.inj hf
                        subst hQ
                        subst hAe
                        exact W.iret (v := (-1)) hx hb hr (fun t ht hW => ⟨⟨_, _, rfl, ⟨rfl, rfl⟩, by rw [ht]; exact hP, hD⟩, hS.F ht⟩) hS.2.2 d_Md_run_193
                    · have c25 := fun h9 => c25 ((lg_cmp_gt _ _).mpr h9)
                      have hf := op_e hf c25
                      refine lv_aload_n hx hb d_Md_run_173 rfl (lv_at hl 2 rfl) ?_
                      refine lv_iload_n hx hb d_Md_run_174 rfl (lv_at hl 1 rfl) ?_
                      obtain ⟨q28, hq28, hf⟩ := op_b hf
                      have hPc := hP
                      have hDc := hD
                      have hFc := va_free (wc := (w_Md_ h_md ad_md tC md24)) hD hS hA [0, 1, 2, 3, 4, 5, 6, 7, 8, 9, 10, 11, 12, 13, 14, 15, 16, 17, 18, 19, 20, 21, 22, 23, 24, 25, 26, 27, 28, 29, 30, 31, 32, 33, 34, 35, 36] rfl
                      refine wr_go (va_runV (As := [.int x3]) (rest := []) ⟨hx, hb, hml, hown, hts⟩ (m_Md_cutBest l dC dI tC h_md ad_md md24 x3 q28 hq28 _) (cwV 1 hts (gd_V kM_9_210 kI_Md_cutBest kV_Md_cutBest kZ_9 kC_Md_cutBest) rfl rfl rfl (by decide +kernel) ⟨(Nat.le_of_ble_eq_true rfl), (Nat.le_of_ble_eq_true rfl)⟩) ⟨wr_blind, va_recv hK hP (ci := 9) (q0 := 0) rfl rfl, wr_pre hK hPc hDc⟩ rfl rfl hl.1 rfl (lv_room (Nat.le_of_ble_eq_true rfl)) d_Md_run_175 ⟨(Nat.le_of_ble_eq_true rfl), (Nat.le_of_ble_eq_true rfl)⟩) hS hFc (fun r w1 H1 locs hw hP1 hD1 hk1 hS => ?_)
                      obtain ⟨rfl, rfl⟩ := hw
                      have hP := hP1
                      have hD := hD1.weaken (fun _ q _ h => hFc q.1 h)
                      clear hP1 hD1 hk1 hPc hDc hFc
                      have hP : va_P (dC, dI) vwCl (w_Md_ h_md ad_md tC q28.2) _ := hP
                      have hD : va_D A (w_Md_ h_md ad_md tC q28.2) := hD
                      refine W.eq (g2 := F0 m 178 ls [.int q28.1]) rfl ?_
                      refine lv_if_ne (tgt := 194) hx hb d_Md_run_178 (by decide) (fun c29 => ?_) (fun c29 => ?_)
                      · have hf := op_e hf c29
                        refine lv_iinc (v := x3 + 1) (lv' := [(3, .int (x3 + 1)), (4, .int q12.1), (0, .ref h_md), (1, .long x1)]) hx hb d_Md_run_194 hl (k := 1) rfl rfl (by decide) rfl (fun ls hl => ?_)
                        refine lv_goto (tgt := 63) hx hb d_Md_run_197 (by decide) ?_
                        exact ih_63 x1 (x3 + 1) q28.2 hf _ _ hP hD hS _ (lv_sub hl [0, 2, 3] rfl)
                      · have hf := op_t hf c29
                        refine lv_goto (tgt := 192) hx hb d_Md_run_181 (by decide) ?_
                        refine lv_iconst (v := (-1)) hx hb d_Md_run_192 (by decide) ?_
                        obtain rfl := Option.some.inj hf
                        subst hQ
                        subst hAe
                        exact W.iret (v := (-1)) hx hb hr (fun t ht hW => ⟨⟨_, _, rfl, ⟨rfl, rfl⟩, by rw [ht]; exact hP, hD⟩, hS.F ht⟩) hS.2.2 d_Md_run_193
                  clear hf
                  have hf := hq23
                  clear hq23
                  refine lv_if_gt (tgt := 158) hx hb d_Md_run_151 (by decide) (fun c22 => ?_) (fun c22 => ?_)
                  · have c22 := (lg_cmp_gt _ _).mp c22
                    have hf := op_t hf c22
                    refine lv_iconst (v := 0) hx hb d_Md_run_158 (by decide) ?_
                    obtain rfl := Option.some.inj hf
                    exact J_151 _ _ hP hD hS _ (lv_sub hl [0, 1, 2, 3] rfl)
                  · have c22 := fun h9 => c22 ((lg_cmp_gt _ _).mpr h9)
                    have hf := op_e hf c22
                    refine lv_iconst (v := 1) hx hb d_Md_run_154 (by decide) ?_
                    refine lv_goto (tgt := 159) hx hb d_Md_run_155 (by decide) ?_
                    obtain rfl := Option.some.inj hf
                    exact J_151 _ _ hP hD hS _ (lv_sub hl [0, 1, 2, 3] rfl)
          exact lp_63 fu x1 4 md hf _ _ hP hD hS _ (lv_sub hl [0, 1, 2] rfl)
        · have hf := op_e hf c7
          refine lv_aload_n hx hb d_Md_run_43 rfl (lv_at hl 1 rfl) ?_
          refine lv_iload_n hx hb d_Md_run_44 rfl (lv_at hl 0 rfl) ?_
          obtain ⟨q30, hq30, hf⟩ := op_b hf
          refine ro_go rfl (va_runV (As := [.int x3]) (rest := []) ⟨hx, hb, hml, hown, hts⟩ (m_Md_lengthOf l dC dI tC h_md ad_md md x3 q30 _ hP hq30) (cwV 1 hts (gd_V kM_9_172 kI_Md_lengthOf kV_Md_lengthOf kZ_9 kC_Md_lengthOf) rfl rfl rfl (by decide +kernel) ⟨(Nat.le_of_ble_eq_true rfl), (Nat.le_of_ble_eq_true rfl)⟩) ⟨ro_blind, va_recv hK hP (ci := 9) (q0 := 0) rfl rfl, ro_pre hK⟩ rfl rfl hl.1 rfl (lv_room (Nat.le_of_ble_eq_true rfl)) d_Md_run_45 ⟨(Nat.le_of_ble_eq_true rfl), (Nat.le_of_ble_eq_true rfl)⟩) ?_
          refine W.eq (g2 := F0 m 48 ls [.long q30]) rfl ?_
          refine lv_lconst (v := 0) hx hb d_Md_run_48 (by decide) ?_
          refine W.lcmp hx hb d_Md_run_49 ?_
          refine lv_if_ne (tgt := 55) hx hb d_Md_run_50 (by decide) (fun c31 => ?_) (fun c31 => ?_)
          · have c31 := fun h9 => c31 ((lg_cmp_eq _ _).mpr h9)
            have hf := op_e hf c31
            refine lv_iinc (v := x3 + 1) (lv' := [(3, .int (x3 + 1)), (0, .ref h_md), (1, .long x1)]) hx hb d_Md_run_55 hl (k := 0) rfl rfl (by decide) rfl (fun ls hl => ?_)
            refine lv_goto (tgt := 35) hx hb d_Md_run_58 (by decide) ?_
            exact ih_35 x1 (x3 + 1) md hf _ _ hP hD hS _ (lv_sub hl [0, 1, 2] rfl)
          · have c31 := (lg_cmp_eq _ _).mp c31
            have hf := op_t hf c31
            refine lv_iconst (v := (-1)) hx hb d_Md_run_53 (by decide) ?_
            obtain rfl := Option.some.inj hf
            subst hQ
            subst hAe
            exact W.iret (v := (-1)) hx hb hr (fun t ht hW => ⟨⟨_, _, rfl, ⟨rfl, rfl⟩, by rw [ht]; exact hP, hD⟩, hS.F ht⟩) hS.2.2 d_Md_run_54
    exact lp_35 fu p1 0 md6 hf _ _ hP hD hS _ (lv_sub hl [0, 1, 2] rfl)
  · have hf := op_t hf c2
    refine lv_iconst (v := (-1)) hx hb d_Md_run_11 (by decide) ?_
    obtain rfl := Option.some.inj hf
    subst hQ
    subst hAe
    exact W.iret (v := (-1)) hx hb hr (fun t ht hW => ⟨⟨_, _, rfl, ⟨rfl, rfl⟩, by rw [ht]; exact hP, hD⟩, hS.F ht⟩) hS.2.2 d_Md_run_12
def l_Md_piecesTogether_4 : Nat → Int64 → Int32 → MS → Option (Int64 × Int32)
  | 0, _, _, _ => none
  | n + 1, x1, x3, md => (if (md.1 2) ≤ x3 then some (x1, x3) else if ix x3 12 then (f_Md_lengthOf md x3).bind fun q4 => (some (x1 + ((((md.2.1 5) x3.toNatClampNeg).toInt64) * q4)) : Option Int64).bind fun v5 => l_Md_piecesTogether_4 n v5 (x3 + 1) md else none)
def f_Md_piecesTogether (md : MS) : Option (Int64) := (l_Md_piecesTogether_4 fu 0 0 md).bind fun q1 => some q1.1
def rm_Md_piecesTogether : Room := { frames := 2, cells := 0, slots := 0, locals := 49 }
set_option maxHeartbeats 4000000 in
set_option maxRecDepth 100000 in
theorem m_Md_piecesTogether (l : Launch) (dC : Nat → ClassId) (dI : Nat → Nat → Nat) (tC : Nat → ClassId) (h_md : Nat) (ad_md : Nat → Nat) (md : MS) (R : Int64) (H : Heap) (hP : va_P (dC, dI) vwCl (w_Md_ h_md ad_md tC md) H) (hf : f_Md_piecesTogether md = some R) : Met l y_Md_piecesTogether w_Md_piecesTogether rm_Md_piecesTogether (roP (dC, dI) tC H [.ref h_md]) (roQ H (some (.long R))) 0 0 (fun _ => False) := by
  refine Met.ofW (cc := c_Md_piecesTogether) (maxL := 4) (ret := (some (.long))) (by decide) rfl ?_
  intro p e s m args below meth c s₁ B hml hv
  obtain ⟨hav, hH, hK⟩ := hv
  have hx := B.exec
  have hb := B.bytes
  have hr := B.returns
  have hts : ∀ w ∈ gw, w.before args s = true := fun w h => atoms_spec (ws := w_Md_piecesTogether) B.pre w (List.mem_cons_of_mem _ h)
  have hown : s.vm.findClass RX9 = some m.cls := findClass_of_methodNamed B.named
  have hlocks := B.notSynchronized
  subst hH
  refine q_w (R := rm_Md_piecesTogether) (fun Q hQ => ?_)
  refine en_w (av := [.ref h_md]) hav (Nat.le_of_ble_eq_true rfl) (fun ls hl => ?_)
  have hl : lv_has ls 4 [(0, .ref h_md)] := hl
  unfold f_Md_piecesTogether at hf
  refine lv_lconst (v := 0) hx hb d_Md_piecesTogether_0 (by decide) ?_
  refine lv_lstore_n (lv' := [(1, .long 0), (0, .ref h_md)]) hx hb d_Md_piecesTogether_1 rfl hl (by decide) rfl (fun ls hl => ?_)
  refine lv_iconst (v := 0) hx hb d_Md_piecesTogether_2 (by decide) ?_
  refine lv_istore_n (lv' := [(3, .int 0), (1, .long 0), (0, .ref h_md)]) hx hb d_Md_piecesTogether_3 rfl hl (by decide) rfl (fun ls hl => ?_)
  have lp_4 : ∀ (n : Nat) (x1 : Int64) (x3 : Int32) (Rl : Int64 × Int32), l_Md_piecesTogether_4 n x1 x3 md = some Rl → ∀ ls : Array Slot, lv_has ls 4 [(3, .int x3), (1, .long x1), (0, .ref h_md)] → (∀ ls : Array Slot, lv_has ls 4 [(3, .int Rl.2), (1, .long Rl.1), (0, .ref h_md)] → W p l e rm_Md_piecesTogether s m args below meth c s.heap [] 0 0 Q (F0 m 34 ls [])) → W p l e rm_Md_piecesTogether s m args below meth c s.heap [] 0 0 Q (F0 m 4 ls []) := by
    intro n
    induction n with
    | zero => intro x1 x3 Rl hf; cases hf
    | succ n ih_4 =>
      intro x1 x3 Rl hf ls hl Kk
      rw [l_Md_piecesTogether_4] at hf
      refine lv_iload_n hx hb d_Md_piecesTogether_4 rfl (lv_at hl 0 rfl) ?_
      refine lv_aload_n hx hb d_Md_piecesTogether_5 rfl (lv_at hl 2 rfl) ?_
      refine va_get (D := (dC, dI)) (ci := 9) (v := .int (md.1 2)) (C := RX9) (T := TX9) (N := 46) hx hb hts in_X9 hown hK hP 0 rfl rfl 6 (by decide) (hts _ kF_9_120) (fun _ h9 => h9) rfl d_Md_piecesTogether_6 ?_
      refine lv_icmp_ge (tgt := 34) hx hb d_Md_piecesTogether_9 (by decide) (fun c2 => ?_) (fun c2 => ?_)
      · have hf := op_t hf c2
        obtain rfl := Option.some.inj hf
        exact Kk _ (lv_sub hl [0, 1, 2] rfl)
      · have hf := op_e hf c2
        refine lv_lload_n hx hb d_Md_piecesTogether_12 rfl (lv_at hl 1 rfl) ?_
        refine lv_aload_n hx hb d_Md_piecesTogether_13 rfl (lv_at hl 2 rfl) ?_
        refine va_get (D := (dC, dI)) (ci := 9) (v := .ref (ad_md 6)) (C := RX9) (T := TX9) (N := 46) hx hb hts in_X9 hown hK hP 0 rfl rfl 9 (by decide) (hts _ kF_9_29) (fun _ h9 => h9) rfl d_Md_piecesTogether_14 ?_
        refine lv_iload_n hx hb d_Md_piecesTogether_17 rfl (lv_at hl 0 rfl) ?_
        obtain ⟨hi3, hf⟩ := op_if hf
        refine va_iald (f := md.2.1 5) hx hb hK hP 7 0 rfl rfl (ix_in hi3) d_Md_piecesTogether_18 ?_
        refine lv_i2l (v := ((md.2.1 5) x3.toNatClampNeg).toInt64) hx hb d_Md_piecesTogether_19 rfl ?_
        refine lv_aload_n hx hb d_Md_piecesTogether_20 rfl (lv_at hl 2 rfl) ?_
        refine lv_iload_n hx hb d_Md_piecesTogether_21 rfl (lv_at hl 0 rfl) ?_
        obtain ⟨q4, hq4, hf⟩ := op_b hf
        refine ro_go rfl (va_runV (As := [.int x3]) (rest := [.long (((md.2.1 5) x3.toNatClampNeg).toInt64), .long x1]) ⟨hx, hb, hml, hown, hts⟩ (m_Md_lengthOf l dC dI tC h_md ad_md md x3 q4 _ hP hq4) (cwV 1 hts (gd_V kM_9_172 kI_Md_lengthOf kV_Md_lengthOf kZ_9 kC_Md_lengthOf) rfl rfl rfl (by decide +kernel) ⟨(Nat.le_of_ble_eq_true rfl), (Nat.le_of_ble_eq_true rfl)⟩) ⟨ro_blind, va_recv hK hP (ci := 9) (q0 := 0) rfl rfl, ro_pre hK⟩ rfl rfl hl.1 rfl (lv_room (Nat.le_of_ble_eq_true rfl)) d_Md_piecesTogether_22 ⟨(Nat.le_of_ble_eq_true rfl), (Nat.le_of_ble_eq_true rfl)⟩) ?_
        refine W.eq (g2 := F0 m 25 ls [.long q4, .long (((md.2.1 5) x3.toNatClampNeg).toInt64), .long x1]) rfl ?_
        refine lv_lmul hx hb d_Md_piecesTogether_25 ?_
        refine lv_ladd hx hb d_Md_piecesTogether_26 ?_
        obtain ⟨v5, hv5, hf⟩ := op_b hf
        refine rw_l (y := v5) (Option.some.inj hv5) ?_
        refine lv_lstore_n (lv' := [(1, .long v5), (3, .int x3), (0, .ref h_md)]) hx hb d_Md_piecesTogether_27 rfl hl (by decide) rfl (fun ls hl => ?_)
        refine lv_iinc (v := x3 + 1) (lv' := [(3, .int (x3 + 1)), (1, .long v5), (0, .ref h_md)]) hx hb d_Md_piecesTogether_28 hl (k := 1) rfl rfl (by decide) rfl (fun ls hl => ?_)
        refine lv_goto (tgt := 4) hx hb d_Md_piecesTogether_31 (by decide) ?_
        exact ih_4 v5 (x3 + 1) Rl hf _ (lv_sub hl [0, 1, 2] rfl) Kk
  obtain ⟨q1, hq1, hf⟩ := op_b hf
  refine lp_4 fu 0 0 q1 hq1 _ (lv_sub hl [0, 1, 2] rfl) ?_
  intro ls hl
  refine lv_lload_n hx hb d_Md_piecesTogether_34 rfl (lv_at hl 1 rfl) ?_
  obtain rfl := Option.some.inj hf
  subst hQ
  exact W.lret (v := q1.1) hx hb hr (fun t ht hW => ⟨rfl, ht⟩) (fun q h => by cases h) d_Md_piecesTogether_35
def l_Md_loss_25 : Nat → Int32 → Int64 → Int32 → MS → Option (Int64 × Int32)
  | 0, _, _, _, _ => none
  | n + 1, x1, x2, x4, md => (if (md.1 5) ≤ x4 then some (x2, x4) else if ix x4 60 then (some (x2 + ((md.2.2 7) x4.toNatClampNeg)) : Option Int64).bind fun v7 => l_Md_loss_25 n x1 v7 (x4 + 1) md else none)
def f_Md_loss (md : MS) (p1 : Int32) : Option (Int64) := (if (md.1 4) = 0 then some (-1) else (if p1 < 0 then some (-1) else (if p1 ≤ 2 then (l_Md_loss_25 fu p1 0 0 md).bind fun q4 => (if p1 = 0 then (f_Md_piecesTogether md).bind fun q9 => some (q4.1 - q9) else (if p1 = 1 then some q4.1 else (f_Md_piecesTogether md).bind fun q11 => some q11)) else some (-1))))
def rm_Md_loss : Room := { frames := 3, cells := 0, slots := 0, locals := 72 }
set_option maxHeartbeats 4000000 in
set_option maxRecDepth 100000 in
theorem m_Md_loss (l : Launch) (dC : Nat → ClassId) (dI : Nat → Nat → Nat) (tC : Nat → ClassId) (h_md : Nat) (ad_md : Nat → Nat) (md : MS) (p1 : Int32) (R : Int64) (H : Heap) (hP : va_P (dC, dI) vwCl (w_Md_ h_md ad_md tC md) H) (hf : f_Md_loss md p1 = some R) : Met l y_Md_loss w_Md_loss rm_Md_loss (roP (dC, dI) tC H [.ref h_md, .int p1]) (roQ H (some (.long R))) 0 0 (fun _ => False) := by
  refine Met.ofW (cc := c_Md_loss) (maxL := 5) (ret := (some (.long))) (by decide) rfl ?_
  intro p e s m args below meth c s₁ B hml hv
  obtain ⟨hav, hH, hK⟩ := hv
  have hx := B.exec
  have hb := B.bytes
  have hr := B.returns
  have hts : ∀ w ∈ gw, w.before args s = true := fun w h => atoms_spec (ws := w_Md_loss) B.pre w (List.mem_cons_of_mem _ h)
  have hown : s.vm.findClass RX9 = some m.cls := findClass_of_methodNamed B.named
  have hlocks := B.notSynchronized
  subst hH
  refine q_w (R := rm_Md_loss) (fun Q hQ => ?_)
  refine en_w (av := [.ref h_md, .int p1]) hav (Nat.le_of_ble_eq_true rfl) (fun ls hl => ?_)
  have hl : lv_has ls 5 [(0, .ref h_md), (1, .int p1)] := hl
  unfold f_Md_loss at hf
  refine lv_aload_n hx hb d_Md_loss_0 rfl (lv_at hl 0 rfl) ?_
  refine va_get (D := (dC, dI)) (ci := 9) (v := .int (md.1 4)) (C := RX9) (T := TX9) (N := 46) hx hb hts in_X9 hown hK hP 0 rfl rfl 27 (by decide) (hts _ kF_9_148) (fun _ h9 => h9) rfl d_Md_loss_1 ?_
  refine lv_if_eq (tgt := 16) hx hb d_Md_loss_4 (by decide) (fun c1 => ?_) (fun c1 => ?_)
  · have hf := op_t hf c1
    refine lv_ldc2 (v := (-1)) hx hb hown (hts _ kK_9_170) d_Md_loss_16 ?_
    obtain rfl := Option.some.inj hf
    subst hQ
    exact W.lret (v := (-1)) hx hb hr (fun t ht hW => ⟨rfl, ht⟩) (fun q h => by cases h) d_Md_loss_19
  · have hf := op_e hf c1
    refine lv_iload_n hx hb d_Md_loss_7 rfl (lv_at hl 1 rfl) ?_
    refine lv_if_lt (tgt := 16) hx hb d_Md_loss_8 (by decide) (fun c2 => ?_) (fun c2 => ?_)
    · have hf := op_t hf c2
      refine lv_ldc2 (v := (-1)) hx hb hown (hts _ kK_9_170) d_Md_loss_16 ?_
      obtain rfl := Option.some.inj hf
      subst hQ
      exact W.lret (v := (-1)) hx hb hr (fun t ht hW => ⟨rfl, ht⟩) (fun q h => by cases h) d_Md_loss_19
    · have hf := op_e hf c2
      refine lv_iload_n hx hb d_Md_loss_11 rfl (lv_at hl 1 rfl) ?_
      refine lv_iconst (v := 2) hx hb d_Md_loss_12 (by decide) ?_
      refine lv_icmp_le (tgt := 20) hx hb d_Md_loss_13 (by decide) (fun c3 => ?_) (fun c3 => ?_)
      · have hf := op_t hf c3
        refine lv_lconst (v := 0) hx hb d_Md_loss_20 (by decide) ?_
        refine lv_lstore_n (lv' := [(2, .long 0), (0, .ref h_md), (1, .int p1)]) hx hb d_Md_loss_21 rfl hl (by decide) rfl (fun ls hl => ?_)
        refine lv_iconst (v := 0) hx hb d_Md_loss_22 (by decide) ?_
        refine lv_istore (lv' := [(4, .int 0), (2, .long 0), (0, .ref h_md), (1, .int p1)]) hx hb d_Md_loss_23 hl (by decide) rfl (fun ls hl => ?_)
        have lp_25 : ∀ (n : Nat) (x1 : Int32) (x2 : Int64) (x4 : Int32) (Rl : Int64 × Int32), l_Md_loss_25 n x1 x2 x4 md = some Rl → ∀ ls : Array Slot, lv_has ls 5 [(4, .int x4), (2, .long x2), (0, .ref h_md), (1, .int x1)] → (∀ ls : Array Slot, lv_has ls 5 [(4, .int Rl.2), (2, .long Rl.1), (0, .ref h_md), (1, .int x1)] → W p l e rm_Md_loss s m args below meth c s.heap [] 0 0 Q (F0 m 50 ls [])) → W p l e rm_Md_loss s m args below meth c s.heap [] 0 0 Q (F0 m 25 ls []) := by
          intro n
          induction n with
          | zero => intro x1 x2 x4 Rl hf; cases hf
          | succ n ih_25 =>
            intro x1 x2 x4 Rl hf ls hl Kk
            rw [l_Md_loss_25] at hf
            refine lv_iload hx hb d_Md_loss_25 (lv_at hl 0 rfl) ?_
            refine lv_aload_n hx hb d_Md_loss_27 rfl (lv_at hl 2 rfl) ?_
            refine va_get (D := (dC, dI)) (ci := 9) (v := .int (md.1 5)) (C := RX9) (T := TX9) (N := 46) hx hb hts in_X9 hown hK hP 0 rfl rfl 28 (by decide) (hts _ kF_9_178) (fun _ h9 => h9) rfl d_Md_loss_28 ?_
            refine lv_icmp_ge (tgt := 50) hx hb d_Md_loss_31 (by decide) (fun c5 => ?_) (fun c5 => ?_)
            · have hf := op_t hf c5
              obtain rfl := Option.some.inj hf
              exact Kk _ (lv_sub hl [0, 1, 2, 3] rfl)
            · have hf := op_e hf c5
              refine lv_lload_n hx hb d_Md_loss_34 rfl (lv_at hl 1 rfl) ?_
              refine lv_aload_n hx hb d_Md_loss_35 rfl (lv_at hl 2 rfl) ?_
              refine va_get (D := (dC, dI)) (ci := 9) (v := .ref (ad_md 24)) (C := RX9) (T := TX9) (N := 46) hx hb hts in_X9 hown hK hP 0 rfl rfl 30 (by decide) (hts _ kF_9_84) (fun _ h9 => h9) rfl d_Md_loss_36 ?_
              refine lv_iload hx hb d_Md_loss_39 (lv_at hl 0 rfl) ?_
              obtain ⟨hi6, hf⟩ := op_if hf
              refine va_lald (f := md.2.2 7) hx hb hK hP 25 1 rfl rfl (ix_in hi6) d_Md_loss_41 ?_
              refine lv_ladd hx hb d_Md_loss_42 ?_
              obtain ⟨v7, hv7, hf⟩ := op_b hf
              refine rw_l (y := v7) (Option.some.inj hv7) ?_
              refine lv_lstore_n (lv' := [(2, .long v7), (4, .int x4), (0, .ref h_md), (1, .int x1)]) hx hb d_Md_loss_43 rfl hl (by decide) rfl (fun ls hl => ?_)
              refine lv_iinc (v := x4 + 1) (lv' := [(4, .int (x4 + 1)), (2, .long v7), (0, .ref h_md), (1, .int x1)]) hx hb d_Md_loss_44 hl (k := 1) rfl rfl (by decide) rfl (fun ls hl => ?_)
              refine lv_goto (tgt := 25) hx hb d_Md_loss_47 (by decide) ?_
              exact ih_25 x1 v7 (x4 + 1) Rl hf _ (lv_sub hl [0, 1, 2, 3] rfl) Kk
        obtain ⟨q4, hq4, hf⟩ := op_b hf
        refine lp_25 fu p1 0 0 q4 hq4 _ (lv_sub hl [0, 1, 2, 3] rfl) ?_
        intro ls hl
        refine lv_iload_n hx hb d_Md_loss_50 rfl (lv_at hl 3 rfl) ?_
        refine lv_if_ne (tgt := 63) hx hb d_Md_loss_51 (by decide) (fun c8 => ?_) (fun c8 => ?_)
        · have hf := op_e hf c8
          refine lv_iload_n hx hb d_Md_loss_63 rfl (lv_at hl 3 rfl) ?_
          refine lv_iconst (v := 1) hx hb d_Md_loss_64 (by decide) ?_
          refine lv_icmp_ne (tgt := 72) hx hb d_Md_loss_65 (by decide) (fun c10 => ?_) (fun c10 => ?_)
          · have hf := op_e hf c10
            refine lv_aload_n hx hb d_Md_loss_72 rfl (lv_at hl 2 rfl) ?_
            obtain ⟨q11, hq11, hf⟩ := op_b hf
            refine ro_go rfl (va_runV (As := []) (rest := []) ⟨hx, hb, hml, hown, hts⟩ (m_Md_piecesTogether l dC dI tC h_md ad_md md q11 _ hP hq11) (cwV 0 hts (gd_V kM_9_216 kI_Md_piecesTogether kV_Md_piecesTogether kZ_9 kC_Md_piecesTogether) rfl rfl rfl (by decide +kernel) ⟨(Nat.le_of_ble_eq_true rfl), (Nat.le_of_ble_eq_true rfl)⟩) ⟨ro_blind, va_recv hK hP (ci := 9) (q0 := 0) rfl rfl, ro_pre hK⟩ rfl rfl hl.1 rfl (lv_room (Nat.le_of_ble_eq_true rfl)) d_Md_loss_73 ⟨(Nat.le_of_ble_eq_true rfl), (Nat.le_of_ble_eq_true rfl)⟩) ?_
            refine W.eq (g2 := F0 m 76 ls [.long q11]) rfl ?_
            obtain rfl := Option.some.inj hf
            subst hQ
            exact W.lret (v := q11) hx hb hr (fun t ht hW => ⟨rfl, ht⟩) (fun q h => by cases h) d_Md_loss_76
          · have hf := op_t hf c10
            refine lv_lload_n hx hb d_Md_loss_68 rfl (lv_at hl 1 rfl) ?_
            refine lv_goto (tgt := 76) hx hb d_Md_loss_69 (by decide) ?_
            obtain rfl := Option.some.inj hf
            subst hQ
            exact W.lret (v := q4.1) hx hb hr (fun t ht hW => ⟨rfl, ht⟩) (fun q h => by cases h) d_Md_loss_76
        · have hf := op_t hf c8
          refine lv_lload_n hx hb d_Md_loss_54 rfl (lv_at hl 1 rfl) ?_
          refine lv_aload_n hx hb d_Md_loss_55 rfl (lv_at hl 2 rfl) ?_
          obtain ⟨q9, hq9, hf⟩ := op_b hf
          refine ro_go rfl (va_runV (As := []) (rest := [.long q4.1]) ⟨hx, hb, hml, hown, hts⟩ (m_Md_piecesTogether l dC dI tC h_md ad_md md q9 _ hP hq9) (cwV 0 hts (gd_V kM_9_216 kI_Md_piecesTogether kV_Md_piecesTogether kZ_9 kC_Md_piecesTogether) rfl rfl rfl (by decide +kernel) ⟨(Nat.le_of_ble_eq_true rfl), (Nat.le_of_ble_eq_true rfl)⟩) ⟨ro_blind, va_recv hK hP (ci := 9) (q0 := 0) rfl rfl, ro_pre hK⟩ rfl rfl hl.1 rfl (lv_room (Nat.le_of_ble_eq_true rfl)) d_Md_loss_56 ⟨(Nat.le_of_ble_eq_true rfl), (Nat.le_of_ble_eq_true rfl)⟩) ?_
          refine W.eq (g2 := F0 m 59 ls [.long q9, .long q4.1]) rfl ?_
          refine lv_lsub hx hb d_Md_loss_59 ?_
          refine lv_goto (tgt := 76) hx hb d_Md_loss_60 (by decide) ?_
          obtain rfl := Option.some.inj hf
          subst hQ
          exact W.lret (v := q4.1 - q9) hx hb hr (fun t ht hW => ⟨rfl, ht⟩) (fun q h => by cases h) d_Md_loss_76
      · have hf := op_e hf c3
        refine lv_ldc2 (v := (-1)) hx hb hown (hts _ kK_9_170) d_Md_loss_16 ?_
        obtain rfl := Option.some.inj hf
        subst hQ
        exact W.lret (v := (-1)) hx hb hr (fun t ht hW => ⟨rfl, ht⟩) (fun q h => by cases h) d_Md_loss_19
def f_Md_bound (md : MS) (p1 : Int32) : Option (Int64) := (if (md.1 4) = 0 then some (-1) else (if p1 < 0 then some (-1) else (if p1 ≤ 1 then (if p1 = 0 then (f_Md_piecesTogether md).bind fun q5 => some q5 else some ((md.1 7).toInt64)) else some (-1))))
def rm_Md_bound : Room := { frames := 3, cells := 0, slots := 0, locals := 72 }
set_option maxHeartbeats 4000000 in
set_option maxRecDepth 100000 in
theorem m_Md_bound (l : Launch) (dC : Nat → ClassId) (dI : Nat → Nat → Nat) (tC : Nat → ClassId) (h_md : Nat) (ad_md : Nat → Nat) (md : MS) (p1 : Int32) (R : Int64) (H : Heap) (hP : va_P (dC, dI) vwCl (w_Md_ h_md ad_md tC md) H) (hf : f_Md_bound md p1 = some R) : Met l y_Md_bound w_Md_bound rm_Md_bound (roP (dC, dI) tC H [.ref h_md, .int p1]) (roQ H (some (.long R))) 0 0 (fun _ => False) := by
  refine Met.ofW (cc := c_Md_bound) (maxL := 2) (ret := (some (.long))) (by decide) rfl ?_
  intro p e s m args below meth c s₁ B hml hv
  obtain ⟨hav, hH, hK⟩ := hv
  have hx := B.exec
  have hb := B.bytes
  have hr := B.returns
  have hts : ∀ w ∈ gw, w.before args s = true := fun w h => atoms_spec (ws := w_Md_bound) B.pre w (List.mem_cons_of_mem _ h)
  have hown : s.vm.findClass RX9 = some m.cls := findClass_of_methodNamed B.named
  have hlocks := B.notSynchronized
  subst hH
  refine q_w (R := rm_Md_bound) (fun Q hQ => ?_)
  refine en_w (av := [.ref h_md, .int p1]) hav (Nat.le_of_ble_eq_true rfl) (fun ls hl => ?_)
  have hl : lv_has ls 2 [(0, .ref h_md), (1, .int p1)] := hl
  unfold f_Md_bound at hf
  refine lv_aload_n hx hb d_Md_bound_0 rfl (lv_at hl 0 rfl) ?_
  refine va_get (D := (dC, dI)) (ci := 9) (v := .int (md.1 4)) (C := RX9) (T := TX9) (N := 46) hx hb hts in_X9 hown hK hP 0 rfl rfl 27 (by decide) (hts _ kF_9_148) (fun _ h9 => h9) rfl d_Md_bound_1 ?_
  refine lv_if_eq (tgt := 16) hx hb d_Md_bound_4 (by decide) (fun c1 => ?_) (fun c1 => ?_)
  · have hf := op_t hf c1
    refine lv_ldc2 (v := (-1)) hx hb hown (hts _ kK_9_170) d_Md_bound_16 ?_
    obtain rfl := Option.some.inj hf
    subst hQ
    exact W.lret (v := (-1)) hx hb hr (fun t ht hW => ⟨rfl, ht⟩) (fun q h => by cases h) d_Md_bound_19
  · have hf := op_e hf c1
    refine lv_iload_n hx hb d_Md_bound_7 rfl (lv_at hl 1 rfl) ?_
    refine lv_if_lt (tgt := 16) hx hb d_Md_bound_8 (by decide) (fun c2 => ?_) (fun c2 => ?_)
    · have hf := op_t hf c2
      refine lv_ldc2 (v := (-1)) hx hb hown (hts _ kK_9_170) d_Md_bound_16 ?_
      obtain rfl := Option.some.inj hf
      subst hQ
      exact W.lret (v := (-1)) hx hb hr (fun t ht hW => ⟨rfl, ht⟩) (fun q h => by cases h) d_Md_bound_19
    · have hf := op_e hf c2
      refine lv_iload_n hx hb d_Md_bound_11 rfl (lv_at hl 1 rfl) ?_
      refine lv_iconst (v := 1) hx hb d_Md_bound_12 (by decide) ?_
      refine lv_icmp_le (tgt := 20) hx hb d_Md_bound_13 (by decide) (fun c3 => ?_) (fun c3 => ?_)
      · have hf := op_t hf c3
        refine lv_iload_n hx hb d_Md_bound_20 rfl (lv_at hl 1 rfl) ?_
        refine lv_if_ne (tgt := 31) hx hb d_Md_bound_21 (by decide) (fun c4 => ?_) (fun c4 => ?_)
        · have hf := op_e hf c4
          refine lv_aload_n hx hb d_Md_bound_31 rfl (lv_at hl 0 rfl) ?_
          refine va_get (D := (dC, dI)) (ci := 9) (v := .int (md.1 7)) (C := RX9) (T := TX9) (N := 46) hx hb hts in_X9 hown hK hP 0 rfl rfl 35 (by decide) (hts _ kF_9_203) (fun _ h9 => h9) rfl d_Md_bound_32 ?_
          refine lv_i2l (v := (md.1 7).toInt64) hx hb d_Md_bound_35 rfl ?_
          obtain rfl := Option.some.inj hf
          subst hQ
          exact W.lret (v := (md.1 7).toInt64) hx hb hr (fun t ht hW => ⟨rfl, ht⟩) (fun q h => by cases h) d_Md_bound_36
        · have hf := op_t hf c4
          refine lv_aload_n hx hb d_Md_bound_24 rfl (lv_at hl 0 rfl) ?_
          obtain ⟨q5, hq5, hf⟩ := op_b hf
          refine ro_go rfl (va_runV (As := []) (rest := []) ⟨hx, hb, hml, hown, hts⟩ (m_Md_piecesTogether l dC dI tC h_md ad_md md q5 _ hP hq5) (cwV 0 hts (gd_V kM_9_216 kI_Md_piecesTogether kV_Md_piecesTogether kZ_9 kC_Md_piecesTogether) rfl rfl rfl (by decide +kernel) ⟨(Nat.le_of_ble_eq_true rfl), (Nat.le_of_ble_eq_true rfl)⟩) ⟨ro_blind, va_recv hK hP (ci := 9) (q0 := 0) rfl rfl, ro_pre hK⟩ rfl rfl hl.1 rfl (lv_room (Nat.le_of_ble_eq_true rfl)) d_Md_bound_25 ⟨(Nat.le_of_ble_eq_true rfl), (Nat.le_of_ble_eq_true rfl)⟩) ?_
          refine W.eq (g2 := F0 m 28 ls [.long q5]) rfl ?_
          refine lv_goto (tgt := 36) hx hb d_Md_bound_28 (by decide) ?_
          obtain rfl := Option.some.inj hf
          subst hQ
          exact W.lret (v := q5) hx hb hr (fun t ht hW => ⟨rfl, ht⟩) (fun q h => by cases h) d_Md_bound_36
      · have hf := op_e hf c3
        refine lv_ldc2 (v := (-1)) hx hb hown (hts _ kK_9_170) d_Md_bound_16 ?_
        obtain rfl := Option.some.inj hf
        subst hQ
        exact W.lret (v := (-1)) hx hb hr (fun t ht hW => ⟨rfl, ht⟩) (fun q h => by cases h) d_Md_bound_19
def f_Md_proved (md : MS) : Option (Int32) := (if (md.1 4) = 0 then some 0 else (if (md.1 7) = (md.1 6) then some 1 else some 0))
def rm_Md_proved : Room := { frames := 0, cells := 0, slots := 0, locals := 0 }
set_option maxHeartbeats 4000000 in
set_option maxRecDepth 100000 in
theorem m_Md_proved (l : Launch) (dC : Nat → ClassId) (dI : Nat → Nat → Nat) (tC : Nat → ClassId) (h_md : Nat) (ad_md : Nat → Nat) (md : MS) (R : Int32) (H : Heap) (hP : va_P (dC, dI) vwCl (w_Md_ h_md ad_md tC md) H) (hf : f_Md_proved md = some R) : Met l y_Md_proved w_Md_proved rm_Md_proved (roP (dC, dI) tC H [.ref h_md]) (roQ H (some (.int R))) 0 0 (fun _ => False) := by
  refine Met.ofW (cc := c_Md_proved) (maxL := 1) (ret := (some (.boolean))) (by decide) rfl ?_
  intro p e s m args below meth c s₁ B hml hv
  obtain ⟨hav, hH, hK⟩ := hv
  have hx := B.exec
  have hb := B.bytes
  have hr := B.returns
  have hts : ∀ w ∈ gw, w.before args s = true := fun w h => atoms_spec (ws := w_Md_proved) B.pre w (List.mem_cons_of_mem _ h)
  have hown : s.vm.findClass RX9 = some m.cls := findClass_of_methodNamed B.named
  have hlocks := B.notSynchronized
  subst hH
  refine q_w (R := rm_Md_proved) (fun Q hQ => ?_)
  refine en_w (av := [.ref h_md]) hav (Nat.le_of_ble_eq_true rfl) (fun ls hl => ?_)
  have hl : lv_has ls 1 [(0, .ref h_md)] := hl
  unfold f_Md_proved at hf
  refine lv_aload_n hx hb d_Md_proved_0 rfl (lv_at hl 0 rfl) ?_
  refine va_get (D := (dC, dI)) (ci := 9) (v := .int (md.1 4)) (C := RX9) (T := TX9) (N := 46) hx hb hts in_X9 hown hK hP 0 rfl rfl 27 (by decide) (hts _ kF_9_148) (fun _ h9 => h9) rfl d_Md_proved_1 ?_
  refine lv_if_eq (tgt := 22) hx hb d_Md_proved_4 (by decide) (fun c1 => ?_) (fun c1 => ?_)
  · have hf := op_t hf c1
    refine lv_iconst (v := 0) hx hb d_Md_proved_22 (by decide) ?_
    obtain rfl := Option.some.inj hf
    subst hQ
    exact W.zret (v := 0) (ty := .boolean) hx hb hr (by decide) (fun t ht hW => ⟨rfl, ht⟩) (fun q h => by cases h) d_Md_proved_23
  · have hf := op_e hf c1
    refine lv_aload_n hx hb d_Md_proved_7 rfl (lv_at hl 0 rfl) ?_
    refine va_get (D := (dC, dI)) (ci := 9) (v := .int (md.1 7)) (C := RX9) (T := TX9) (N := 46) hx hb hts in_X9 hown hK hP 0 rfl rfl 35 (by decide) (hts _ kF_9_203) (fun _ h9 => h9) rfl d_Md_proved_8 ?_
    refine lv_aload_n hx hb d_Md_proved_11 rfl (lv_at hl 0 rfl) ?_
    refine va_get (D := (dC, dI)) (ci := 9) (v := .int (md.1 6)) (C := RX9) (T := TX9) (N := 46) hx hb hts in_X9 hown hK hP 0 rfl rfl 34 (by decide) (hts _ kF_9_200) (fun _ h9 => h9) rfl d_Md_proved_12 ?_
    refine lv_icmp_ne (tgt := 22) hx hb d_Md_proved_15 (by decide) (fun c2 => ?_) (fun c2 => ?_)
    · have hf := op_e hf c2
      refine lv_iconst (v := 0) hx hb d_Md_proved_22 (by decide) ?_
      obtain rfl := Option.some.inj hf
      subst hQ
      exact W.zret (v := 0) (ty := .boolean) hx hb hr (by decide) (fun t ht hW => ⟨rfl, ht⟩) (fun q h => by cases h) d_Md_proved_23
    · have hf := op_t hf c2
      refine lv_iconst (v := 1) hx hb d_Md_proved_18 (by decide) ?_
      refine lv_goto (tgt := 23) hx hb d_Md_proved_19 (by decide) ?_
      obtain rfl := Option.some.inj hf
      subst hQ
      exact W.zret (v := 1) (ty := .boolean) hx hb hr (by decide) (fun t ht hW => ⟨rfl, ht⟩) (fun q h => by cases h) d_Md_proved_23
def f_Md_pattern (md : MS) (p1 : Int32) (p2 : Int32) : Option (Int32) := (if (md.1 4) = 0 then some (-1) else (if p1 < 0 then some (-1) else (if (md.1 5) ≤ p1 then some (-1) else (if p2 < 0 then some (-1) else if ix p1 60 then (if p2 < (3 + ((md.2.1 17) p1.toNatClampNeg)) then (if p2 = 0 then if ix p1 60 then some ((md.2.1 16) p1.toNatClampNeg) else none else (if p2 = 1 then if ix p1 60 then some (((md.2.2 7) p1.toNatClampNeg).toInt32) else none else (if p2 = 2 then if ix p1 60 then some ((md.2.1 17) p1.toNatClampNeg) else none else if ix (((60 * p1) + p2) - 3) 3600 then some ((md.2.1 18) (((60 * p1) + p2) - 3).toNatClampNeg) else none))) else some (-1)) else none))))
def rm_Md_pattern : Room := { frames := 0, cells := 0, slots := 0, locals := 0 }
set_option maxHeartbeats 4000000 in
set_option maxRecDepth 100000 in
theorem m_Md_pattern (l : Launch) (dC : Nat → ClassId) (dI : Nat → Nat → Nat) (tC : Nat → ClassId) (h_md : Nat) (ad_md : Nat → Nat) (md : MS) (p1 : Int32) (p2 : Int32) (R : Int32) (H : Heap) (hP : va_P (dC, dI) vwCl (w_Md_ h_md ad_md tC md) H) (hf : f_Md_pattern md p1 p2 = some R) : Met l y_Md_pattern w_Md_pattern rm_Md_pattern (roP (dC, dI) tC H [.ref h_md, .int p1, .int p2]) (roQ H (some (.int R))) 0 0 (fun _ => False) := by
  refine Met.ofW (cc := c_Md_pattern) (maxL := 3) (ret := (some (.int))) (by decide) rfl ?_
  intro p e s m args below meth c s₁ B hml hv
  obtain ⟨hav, hH, hK⟩ := hv
  have hx := B.exec
  have hb := B.bytes
  have hr := B.returns
  have hts : ∀ w ∈ gw, w.before args s = true := fun w h => atoms_spec (ws := w_Md_pattern) B.pre w (List.mem_cons_of_mem _ h)
  have hown : s.vm.findClass RX9 = some m.cls := findClass_of_methodNamed B.named
  have hlocks := B.notSynchronized
  subst hH
  refine q_w (R := rm_Md_pattern) (fun Q hQ => ?_)
  refine en_w (av := [.ref h_md, .int p1, .int p2]) hav (Nat.le_of_ble_eq_true rfl) (fun ls hl => ?_)
  have hl : lv_has ls 3 [(0, .ref h_md), (1, .int p1), (2, .int p2)] := hl
  unfold f_Md_pattern at hf
  refine lv_aload_n hx hb d_Md_pattern_0 rfl (lv_at hl 0 rfl) ?_
  refine va_get (D := (dC, dI)) (ci := 9) (v := .int (md.1 4)) (C := RX9) (T := TX9) (N := 46) hx hb hts in_X9 hown hK hP 0 rfl rfl 27 (by decide) (hts _ kF_9_148) (fun _ h9 => h9) rfl d_Md_pattern_1 ?_
  refine lv_if_eq (tgt := 35) hx hb d_Md_pattern_4 (by decide) (fun c1 => ?_) (fun c1 => ?_)
  · have hf := op_t hf c1
    refine lv_iconst (v := (-1)) hx hb d_Md_pattern_35 (by decide) ?_
    obtain rfl := Option.some.inj hf
    subst hQ
    exact W.iret (v := (-1)) hx hb hr (fun t ht hW => ⟨rfl, ht⟩) (fun q h => by cases h) d_Md_pattern_36
  · have hf := op_e hf c1
    refine lv_iload_n hx hb d_Md_pattern_7 rfl (lv_at hl 1 rfl) ?_
    refine lv_if_lt (tgt := 35) hx hb d_Md_pattern_8 (by decide) (fun c2 => ?_) (fun c2 => ?_)
    · have hf := op_t hf c2
      refine lv_iconst (v := (-1)) hx hb d_Md_pattern_35 (by decide) ?_
      obtain rfl := Option.some.inj hf
      subst hQ
      exact W.iret (v := (-1)) hx hb hr (fun t ht hW => ⟨rfl, ht⟩) (fun q h => by cases h) d_Md_pattern_36
    · have hf := op_e hf c2
      refine lv_iload_n hx hb d_Md_pattern_11 rfl (lv_at hl 1 rfl) ?_
      refine lv_aload_n hx hb d_Md_pattern_12 rfl (lv_at hl 0 rfl) ?_
      refine va_get (D := (dC, dI)) (ci := 9) (v := .int (md.1 5)) (C := RX9) (T := TX9) (N := 46) hx hb hts in_X9 hown hK hP 0 rfl rfl 28 (by decide) (hts _ kF_9_178) (fun _ h9 => h9) rfl d_Md_pattern_13 ?_
      refine lv_icmp_ge (tgt := 35) hx hb d_Md_pattern_16 (by decide) (fun c3 => ?_) (fun c3 => ?_)
      · have hf := op_t hf c3
        refine lv_iconst (v := (-1)) hx hb d_Md_pattern_35 (by decide) ?_
        obtain rfl := Option.some.inj hf
        subst hQ
        exact W.iret (v := (-1)) hx hb hr (fun t ht hW => ⟨rfl, ht⟩) (fun q h => by cases h) d_Md_pattern_36
      · have hf := op_e hf c3
        refine lv_iload_n hx hb d_Md_pattern_19 rfl (lv_at hl 2 rfl) ?_
        refine lv_if_lt (tgt := 35) hx hb d_Md_pattern_20 (by decide) (fun c4 => ?_) (fun c4 => ?_)
        · have hf := op_t hf c4
          refine lv_iconst (v := (-1)) hx hb d_Md_pattern_35 (by decide) ?_
          obtain rfl := Option.some.inj hf
          subst hQ
          exact W.iret (v := (-1)) hx hb hr (fun t ht hW => ⟨rfl, ht⟩) (fun q h => by cases h) d_Md_pattern_36
        · have hf := op_e hf c4
          refine lv_iload_n hx hb d_Md_pattern_23 rfl (lv_at hl 2 rfl) ?_
          refine lv_iconst (v := 3) hx hb d_Md_pattern_24 (by decide) ?_
          refine lv_aload_n hx hb d_Md_pattern_25 rfl (lv_at hl 0 rfl) ?_
          refine va_get (D := (dC, dI)) (ci := 9) (v := .ref (ad_md 25)) (C := RX9) (T := TX9) (N := 46) hx hb hts in_X9 hown hK hP 0 rfl rfl 31 (by decide) (hts _ kF_9_87) (fun _ h9 => h9) rfl d_Md_pattern_26 ?_
          refine lv_iload_n hx hb d_Md_pattern_29 rfl (lv_at hl 1 rfl) ?_
          obtain ⟨hi5, hf⟩ := op_if hf
          refine va_iald (f := md.2.1 17) hx hb hK hP 26 0 rfl rfl (ix_in hi5) d_Md_pattern_30 ?_
          refine lv_iadd hx hb d_Md_pattern_31 ?_
          refine lv_icmp_lt (tgt := 37) hx hb d_Md_pattern_32 (by decide) (fun c6 => ?_) (fun c6 => ?_)
          · have hf := op_t hf c6
            refine lv_iload_n hx hb d_Md_pattern_37 rfl (lv_at hl 2 rfl) ?_
            refine lv_if_ne (tgt := 50) hx hb d_Md_pattern_38 (by decide) (fun c7 => ?_) (fun c7 => ?_)
            · have hf := op_e hf c7
              refine lv_iload_n hx hb d_Md_pattern_50 rfl (lv_at hl 2 rfl) ?_
              refine lv_iconst (v := 1) hx hb d_Md_pattern_51 (by decide) ?_
              refine lv_icmp_ne (tgt := 65) hx hb d_Md_pattern_52 (by decide) (fun c9 => ?_) (fun c9 => ?_)
              · have hf := op_e hf c9
                refine lv_iload_n hx hb d_Md_pattern_65 rfl (lv_at hl 2 rfl) ?_
                refine lv_iconst (v := 2) hx hb d_Md_pattern_66 (by decide) ?_
                refine lv_icmp_ne (tgt := 79) hx hb d_Md_pattern_67 (by decide) (fun c11 => ?_) (fun c11 => ?_)
                · have hf := op_e hf c11
                  refine lv_aload_n hx hb d_Md_pattern_79 rfl (lv_at hl 0 rfl) ?_
                  refine va_get (D := (dC, dI)) (ci := 9) (v := .ref (ad_md 26)) (C := RX9) (T := TX9) (N := 46) hx hb hts in_X9 hown hK hP 0 rfl rfl 32 (by decide) (hts _ kF_9_90) (fun _ h9 => h9) rfl d_Md_pattern_80 ?_
                  refine lv_bipush (v := 60) hx hb d_Md_pattern_83 (by decide) ?_
                  refine lv_iload_n hx hb d_Md_pattern_85 rfl (lv_at hl 1 rfl) ?_
                  refine lv_imul hx hb d_Md_pattern_86 ?_
                  refine lv_iload_n hx hb d_Md_pattern_87 rfl (lv_at hl 2 rfl) ?_
                  refine lv_iadd hx hb d_Md_pattern_88 ?_
                  refine lv_iconst (v := 3) hx hb d_Md_pattern_89 (by decide) ?_
                  refine lv_isub hx hb d_Md_pattern_90 ?_
                  obtain ⟨hi13, hf⟩ := op_if hf
                  refine va_iald (f := md.2.1 18) hx hb hK hP 27 0 rfl rfl (ix_in hi13) d_Md_pattern_91 ?_
                  obtain rfl := Option.some.inj hf
                  subst hQ
                  exact W.iret (v := (md.2.1 18) (((60 * p1) + p2) - 3).toNatClampNeg) hx hb hr (fun t ht hW => ⟨rfl, ht⟩) (fun q h => by cases h) d_Md_pattern_92
                · have hf := op_t hf c11
                  refine lv_aload_n hx hb d_Md_pattern_70 rfl (lv_at hl 0 rfl) ?_
                  refine va_get (D := (dC, dI)) (ci := 9) (v := .ref (ad_md 25)) (C := RX9) (T := TX9) (N := 46) hx hb hts in_X9 hown hK hP 0 rfl rfl 31 (by decide) (hts _ kF_9_87) (fun _ h9 => h9) rfl d_Md_pattern_71 ?_
                  refine lv_iload_n hx hb d_Md_pattern_74 rfl (lv_at hl 1 rfl) ?_
                  obtain ⟨hi12, hf⟩ := op_if hf
                  refine va_iald (f := md.2.1 17) hx hb hK hP 26 0 rfl rfl (ix_in hi12) d_Md_pattern_75 ?_
                  refine lv_goto (tgt := 92) hx hb d_Md_pattern_76 (by decide) ?_
                  obtain rfl := Option.some.inj hf
                  subst hQ
                  exact W.iret (v := (md.2.1 17) p1.toNatClampNeg) hx hb hr (fun t ht hW => ⟨rfl, ht⟩) (fun q h => by cases h) d_Md_pattern_92
              · have hf := op_t hf c9
                refine lv_aload_n hx hb d_Md_pattern_55 rfl (lv_at hl 0 rfl) ?_
                refine va_get (D := (dC, dI)) (ci := 9) (v := .ref (ad_md 24)) (C := RX9) (T := TX9) (N := 46) hx hb hts in_X9 hown hK hP 0 rfl rfl 30 (by decide) (hts _ kF_9_84) (fun _ h9 => h9) rfl d_Md_pattern_56 ?_
                refine lv_iload_n hx hb d_Md_pattern_59 rfl (lv_at hl 1 rfl) ?_
                obtain ⟨hi10, hf⟩ := op_if hf
                refine va_lald (f := md.2.2 7) hx hb hK hP 25 1 rfl rfl (ix_in hi10) d_Md_pattern_60 ?_
                refine lv_l2i (v := ((md.2.2 7) p1.toNatClampNeg).toInt32) hx hb d_Md_pattern_61 rfl ?_
                refine lv_goto (tgt := 92) hx hb d_Md_pattern_62 (by decide) ?_
                obtain rfl := Option.some.inj hf
                subst hQ
                exact W.iret (v := ((md.2.2 7) p1.toNatClampNeg).toInt32) hx hb hr (fun t ht hW => ⟨rfl, ht⟩) (fun q h => by cases h) d_Md_pattern_92
            · have hf := op_t hf c7
              refine lv_aload_n hx hb d_Md_pattern_41 rfl (lv_at hl 0 rfl) ?_
              refine va_get (D := (dC, dI)) (ci := 9) (v := .ref (ad_md 23)) (C := RX9) (T := TX9) (N := 46) hx hb hts in_X9 hown hK hP 0 rfl rfl 29 (by decide) (hts _ kF_9_81) (fun _ h9 => h9) rfl d_Md_pattern_42 ?_
              refine lv_iload_n hx hb d_Md_pattern_45 rfl (lv_at hl 1 rfl) ?_
              obtain ⟨hi8, hf⟩ := op_if hf
              refine va_iald (f := md.2.1 16) hx hb hK hP 24 0 rfl rfl (ix_in hi8) d_Md_pattern_46 ?_
              refine lv_goto (tgt := 92) hx hb d_Md_pattern_47 (by decide) ?_
              obtain rfl := Option.some.inj hf
              subst hQ
              exact W.iret (v := (md.2.1 16) p1.toNatClampNeg) hx hb hr (fun t ht hW => ⟨rfl, ht⟩) (fun q h => by cases h) d_Md_pattern_92
          · have hf := op_e hf c6
            refine lv_iconst (v := (-1)) hx hb d_Md_pattern_35 (by decide) ?_
            obtain rfl := Option.some.inj hf
            subst hQ
            exact W.iret (v := (-1)) hx hb hr (fun t ht hW => ⟨rfl, ht⟩) (fun q h => by cases h) d_Md_pattern_36
