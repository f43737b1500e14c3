def l_Bc_gatherPieces_45 : Nat → Int32 → Int32 → Int32 → Int32 → Int32 → Nat → (Nat → Nat) → (Nat → MS) → (Nat → MS) → (Nat → Bool) → (Nat → MS) → Nat → MS → MS → MS → MS → MS → MS → MS → Option (Int32 × MS × MS × MS × MS × MS × MS × MS)
  | 0, _, _, _, _, _, _, _, _, _, _, _, _, _, _, _, _, _, _, _ => none
  | n + 1, x1, x2, x3, x5, x6, nl, nT, LS, TS, FP, FS, i4, bc, sg, tr, tu, ff, pl, lw => (if ((LS i4).1 2) ≤ x6 then some (x6, bc, sg, tr, tu, ff, pl, lw) else (f_Pl_addPiece pl x2 x3 x5).bind fun q12 => l_Bc_gatherPieces_45 n x1 x2 x3 x5 (x6 + 1) nl nT LS TS FP FS i4 bc sg tr tu ff q12.2 lw)
def l_Bc_gatherPieces_2 : Nat → Int32 → Int32 → Int32 → Nat → (Nat → Nat) → (Nat → MS) → (Nat → MS) → (Nat → Bool) → (Nat → MS) → MS → MS → MS → MS → MS → MS → MS → Option (Int32 × MS × MS × MS × MS × MS × MS × MS)
  | 0, _, _, _, _, _, _, _, _, _, _, _, _, _, _, _, _ => none
  | n + 1, x1, x2, x3, nl, nT, LS, TS, FP, FS, bc, sg, tr, tu, ff, pl, lw => (if (bc.1 1) ≤ x3 then some (1, bc, sg, tr, tu, ff, pl, lw) else if ix x3 12 then (some (x3.toNatClampNeg) : Option Nat).bind fun i4 => if i4 < nl then (if ((LS i4).1 1) = x1 then (f_Bc_cutLength nl nT LS TS FP FS bc sg tr tu ff pl lw i4).bind fun q7 => (if q7 = 0 then some (0, bc, sg, tr, tu, ff, pl, lw) else (l_Bc_gatherPieces_45 fu x1 x2 x3 q7 0 nl nT LS TS FP FS i4 bc sg tr tu ff pl lw).bind fun q9 => l_Bc_gatherPieces_2 n x1 x2 (x3 + 1) nl nT LS TS FP FS q9.2.1 q9.2.2.1 q9.2.2.2.1 q9.2.2.2.2.1 q9.2.2.2.2.2.1 q9.2.2.2.2.2.2.1 q9.2.2.2.2.2.2.2) else l_Bc_gatherPieces_2 n x1 x2 (x3 + 1) nl nT LS TS FP FS bc sg tr tu ff pl lw) else none else none)
def f_Bc_gatherPieces (nl : Nat) (nT : Nat → Nat) (LS : Nat → MS) (TS : Nat → MS) (FP : Nat → Bool) (FS : Nat → MS) (bc : MS) (sg : MS) (tr : MS) (tu : MS) (ff : MS) (pl : MS) (lw : MS) (p1 : Int32) (p2 : Int32) : Option (Int32 × MS × MS × MS × MS × MS × MS × MS) := l_Bc_gatherPieces_2 fu p1 p2 0 nl nT LS TS FP FS bc sg tr tu ff pl lw
def rm_Bc_gatherPieces : Room := { frames := 2, cells := 0, slots := 0, locals := 52 }
set_option maxHeartbeats 4000000 in
set_option maxRecDepth 100000 in
theorem m_Bc_gatherPieces (l : Launch) (dC : Nat → ClassId) (dI : Nat → Nat → Nat) (tC : Nat → ClassId) (TL : va_W) (nl : Nat) (hL : Nat → Nat) (adL aT : Nat → Nat → Nat) (nT : Nat → Nat) (LS TS : Nat → MS) (FP : Nat → Bool) (hF : Nat → Nat) (adF : Nat → Nat → Nat) (FS : Nat → MS) (rf : Nat → Nat → Option Nat) (h_bc : Nat) (ad_bc : Nat → Nat) (bc : MS) (ad_sg : Nat → Nat) (sg : MS) (ad_tr : Nat → Nat) (tr : MS) (ad_tu : Nat → Nat) (tu : MS) (ad_ff : Nat → Nat) (ff : MS) (ad_pl : Nat → Nat) (pl : MS) (ad_lw : Nat → Nat) (lw : MS) (p1 : Int32) (p2 : Int32) (R : Int32 × MS × MS × MS × MS × MS × MS × MS) (hFM : FM tC TL nl hL adL aT nT LS TS FP hF adF FS rf) (hf : f_Bc_gatherPieces nl nT LS TS FP FS bc sg tr tu ff pl lw p1 p2 = some R) (sz : Nat) : Met l y_Bc_gatherPieces w_Bc_gatherPieces rm_Bc_gatherPieces (wrP (dC, dI) tC (w_Bc_ h_bc ad_bc tC rf bc ++ (w_Sg_ (ad_bc 100) ad_sg tC sg ++ (w_Tr_ (ad_bc 104) ad_tr tC tr ++ (w_Tr_ (ad_bc 105) ad_tu tC tu ++ (w_Ff_ (ad_bc 103) ad_ff tC ff ++ (w_Pl_ (ad_bc 101) ad_pl tC pl ++ (w_Lw_ (ad_bc 102) ad_lw tC lw ++ TL))))))) sz [.ref h_bc, .int p1, .int p2]) (wrQ (dC, dI) (w_Bc_ h_bc ad_bc tC rf bc ++ (w_Sg_ (ad_bc 100) ad_sg tC sg ++ (w_Tr_ (ad_bc 104) ad_tr tC tr ++ (w_Tr_ (ad_bc 105) ad_tu tC tu ++ (w_Ff_ (ad_bc 103) ad_ff tC ff ++ (w_Pl_ (ad_bc 101) ad_pl tC pl ++ (w_Lw_ (ad_bc 102) ad_lw tC lw ++ TL))))))) sz (fun r w => r = (some (.int R.1)) ∧ w = (w_Bc_ h_bc ad_bc tC rf R.2.1 ++ (w_Sg_ (ad_bc 100) ad_sg tC R.2.2.1 ++ (w_Tr_ (ad_bc 104) ad_tr tC R.2.2.2.1 ++ (w_Tr_ (ad_bc 105) ad_tu tC R.2.2.2.2.1 ++ (w_Ff_ (ad_bc 103) ad_ff tC R.2.2.2.2.2.1 ++ (w_Pl_ (ad_bc 101) ad_pl tC R.2.2.2.2.2.2.1 ++ (w_Lw_ (ad_bc 102) ad_lw tC R.2.2.2.2.2.2.2 ++ TL))))))))) 0 0 (va_A (w_Bc_ h_bc ad_bc tC rf bc ++ (w_Sg_ (ad_bc 100) ad_sg tC sg ++ (w_Tr_ (ad_bc 104) ad_tr tC tr ++ (w_Tr_ (ad_bc 105) ad_tu tC tu ++ (w_Ff_ (ad_bc 103) ad_ff tC ff ++ (w_Pl_ (ad_bc 101) ad_pl tC pl ++ (w_Lw_ (ad_bc 102) ad_lw tC lw ++ TL))))))) sz) := by
  refine Met.ofW (cc := c_Bc_gatherPieces) (maxL := 7) (ret := (some (.boolean))) (by decide) rfl ?_
  intro p e s m args below meth c s₁ B hml hv
  obtain ⟨hav, hsz, hP, hK, hD0⟩ := hv
  have hx := B.exec
  have hb := B.bytes
  have hr := B.returns
  have hts : ∀ w ∈ gw, w.before args s = true := fun w h => atoms_spec (ws := w_Bc_gatherPieces) B.pre w (List.mem_cons_of_mem _ h)
  have hown : s.vm.findClass RX8 = some m.cls := findClass_of_methodNamed B.named
  have hlocks := B.notSynchronized
  subst hsz
  have hD := hD0.self (sz := s.heap.size)
  obtain ⟨A, hAe⟩ : ∃ z, z = va_A (w_Bc_ h_bc ad_bc tC rf bc ++ (w_Sg_ (ad_bc 100) ad_sg tC sg ++ (w_Tr_ (ad_bc 104) ad_tr tC tr ++ (w_Tr_ (ad_bc 105) ad_tu tC tu ++ (w_Ff_ (ad_bc 103) ad_ff tC ff ++ (w_Pl_ (ad_bc 101) ad_pl tC pl ++ (w_Lw_ (ad_bc 102) ad_lw tC lw ++ TL))))))) s.heap.size := ⟨_, rfl⟩
  rw [← hAe] at hD
  have hA : ∀ q : Nat, s.heap.size ≤ q → A q := fun q h => by rw [hAe]; exact Or.inr h
  have hS : va_S A s.heap s.heap [] := va_S.rf
  refine q_w (R := rm_Bc_gatherPieces) (fun Q hQ => ?_)
  refine en_w (av := [.ref h_bc, .int p1, .int p2]) hav (Nat.le_of_ble_eq_true rfl) (fun ls hl => ?_)
  have hl : lv_has ls 7 [(0, .ref h_bc), (1, .int p1), (2, .int p2)] := hl
  unfold f_Bc_gatherPieces at hf
  refine lv_iconst (v := 0) hx hb d_Bc_gatherPieces_0 (by decide) ?_
  refine lv_istore_n (lv' := [(3, .int 0), (0, .ref h_bc), (1, .int p1), (2, .int p2)]) hx hb d_Bc_gatherPieces_1 rfl hl (by decide) rfl (fun ls hl => ?_)
  have lp_2 : ∀ (n : Nat) (x1 : Int32) (x2 : Int32) (x3 : Int32) (bc : MS) (sg : MS) (tr : MS) (tu : MS) (ff : MS) (pl : MS) (lw : MS), l_Bc_gatherPieces_2 n x1 x2 x3 nl nT LS TS FP FS bc sg tr tu ff pl lw = some R → ∀ (H : Heap) (locs : List Loc), va_P (dC, dI) vwCl (w_Bc_ h_bc ad_bc tC rf bc ++ (w_Sg_ (ad_bc 100) ad_sg tC sg ++ (w_Tr_ (ad_bc 104) ad_tr tC tr ++ (w_Tr_ (ad_bc 105) ad_tu tC tu ++ (w_Ff_ (ad_bc 103) ad_ff tC ff ++ (w_Pl_ (ad_bc 101) ad_pl tC pl ++ (w_Lw_ (ad_bc 102) ad_lw tC lw ++ TL))))))) H → va_D A (w_Bc_ h_bc ad_bc tC rf bc ++ (w_Sg_ (ad_bc 100) ad_sg tC sg ++ (w_Tr_ (ad_bc 104) ad_tr tC tr ++ (w_Tr_ (ad_bc 105) ad_tu tC tu ++ (w_Ff_ (ad_bc 103) ad_ff tC ff ++ (w_Pl_ (ad_bc 101) ad_pl tC pl ++ (w_Lw_ (ad_bc 102) ad_lw tC lw ++ TL))))))) → va_S A s.heap H locs → ∀ ls : Array Slot, lv_has ls 7 [(3, .int x3), (0, .ref h_bc), (1, .int x1), (2, .int x2)] → W p l e rm_Bc_gatherPieces s m args below meth c H locs 0 0 Q (F0 m 2 ls []) := by
    intro n
    induction n with
    | zero => intro x1 x2 x3 bc sg tr tu ff pl lw hf; cases hf
    | succ n ih_2 =>
      intro x1 x2 x3 bc sg tr tu ff pl lw hf H locs hP hD hS ls hl
      rw [l_Bc_gatherPieces_2] at hf
      refine lv_iload_n hx hb d_Bc_gatherPieces_2 rfl (lv_at hl 0 rfl) ?_
      refine lv_aload_n hx hb d_Bc_gatherPieces_3 rfl (lv_at hl 1 rfl) ?_
      refine va_get (D := (dC, dI)) (ci := 8) (v := .int (bc.1 1)) (C := RX8) (T := TX8) (N := 12) hx hb hts in_X8 hown hK hP 0 rfl rfl 11 (by decide) (hts _ kF_8_73) (fun _ h9 => h9) rfl d_Bc_gatherPieces_4 ?_
      refine lv_icmp_ge (tgt := 78) hx hb d_Bc_gatherPieces_7 (by decide) (fun c1 => ?_) (fun c1 => ?_)
      · have hf := op_t hf c1
        refine lv_iconst (v := 1) hx hb d_Bc_gatherPieces_78 (by decide) ?_
        obtain rfl := Option.some.inj hf
        subst hQ
        subst hAe
        exact W.zret (v := 1) (ty := .boolean) hx hb hr (by decide) (fun t ht hW => ⟨⟨_, _, rfl, ⟨rfl, rfl⟩, by rw [ht]; exact hP, hD⟩, hS.F ht⟩) hS.2.2 d_Bc_gatherPieces_79
      · have hf := op_e hf c1
        refine lv_aload_n hx hb d_Bc_gatherPieces_10 rfl (lv_at hl 1 rfl) ?_
        refine va_get (D := (dC, dI)) (ci := 8) (v := .ref (ad_bc 1)) (C := RX8) (T := TX8) (N := 12) hx hb hts in_X8 hown hK hP 0 rfl rfl 2 (by decide) (hts _ kF_8_24) (fun _ h9 => h9) rfl d_Bc_gatherPieces_11 ?_
        refine lv_iload_n hx hb d_Bc_gatherPieces_14 rfl (lv_at hl 0 rfl) ?_
        obtain ⟨hi2, hf⟩ := op_if hf
        refine va_aldq (f := rf 1) hx hb hK hP 2 5 rfl rfl (ix_in hi2) d_Bc_gatherPieces_15 ?_
        obtain ⟨i4, hi4, hf⟩ := op_b hf
        obtain ⟨hg3, hf⟩ := op_if hf
        refine rw_s (a := hL i4) (by rw [Option.some.inj hi4]; exact hFM.2.2.1 _ hg3) ?_
        refine lv_astore (lv' := [(4, .ref (hL i4)), (3, .int x3), (0, .ref h_bc), (1, .int x1), (2, .int x2)]) hx hb d_Bc_gatherPieces_16 hl (by decide) rfl (fun ls hl => ?_)
        refine lv_aload hx hb d_Bc_gatherPieces_18 (lv_at hl 0 rfl) ?_
        obtain ⟨k5, hk5⟩ := List.getElem?_of_mem (List.mem_append_right _ (List.mem_append_right _ (List.mem_append_right _ (List.mem_append_right _ (List.mem_append_right _ (List.mem_append_right _ (List.mem_append_right _ ((hFM.1 i4 hg3) _ (List.mem_of_getElem? (i := 0) rfl)))))))))
        refine va_get (D := (dC, dI)) (ci := 2) (v := .int ((LS i4).1 1)) (C := RX2) (T := TX2) (N := 9) hx hb hts in_X2 hown hK hP k5 hk5 rfl 2 (by decide) (hts _ kF_8_129) (fun _ h9 => h9) rfl d_Bc_gatherPieces_20 ?_
        refine lv_iload_n hx hb d_Bc_gatherPieces_23 rfl (lv_at hl 3 rfl) ?_
        refine lv_icmp_ne (tgt := 72) hx hb d_Bc_gatherPieces_24 (by decide) (fun c6 => ?_) (fun c6 => ?_)
        · have hf := op_e hf c6
          refine lv_iinc (v := x3 + 1) (lv' := [(3, .int (x3 + 1)), (4, .ref (hL i4)), (0, .ref h_bc), (1, .int x1), (2, .int x2)]) hx hb d_Bc_gatherPieces_72 hl (k := 1) rfl rfl (by decide) rfl (fun ls hl => ?_)
          refine lv_goto (tgt := 2) hx hb d_Bc_gatherPieces_75 (by decide) ?_
          exact ih_2 x1 x2 (x3 + 1) bc sg tr tu ff pl lw hf _ _ hP hD hS _ (lv_sub hl [0, 2, 3, 4] rfl)
        · have hf := op_t hf c6
          refine lv_aload_n hx hb d_Bc_gatherPieces_27 rfl (lv_at hl 2 rfl) ?_
          refine lv_aload hx hb d_Bc_gatherPieces_28 (lv_at hl 0 rfl) ?_
          obtain ⟨q7, hq7, hf⟩ := op_b hf
          refine ro_go rfl (va_runV (As := [.ref (hL i4)]) (rest := []) ⟨hx, hb, hml, hown, hts⟩ (m_Bc_cutLength l dC dI tC TL nl hL adL aT nT LS TS FP hF adF FS rf h_bc ad_bc bc ad_sg sg ad_tr tr ad_tu tu ad_ff ff ad_pl pl ad_lw lw i4 hg3 q7 _ hFM hP hq7) (cwV 1 hts (gd_V kM_8_119 kI_Bc_cutLength kV_Bc_cutLength kZ_8 kC_Bc_cutLength) rfl rfl rfl (by decide +kernel) ⟨(Nat.le_of_ble_eq_true rfl), (Nat.le_of_ble_eq_true rfl)⟩) ⟨ro_blind, va_recv hK hP (ci := 8) (q0 := 0) rfl rfl, ro_pre hK⟩ rfl rfl hl.1 rfl (lv_room (Nat.le_of_ble_eq_true rfl)) d_Bc_gatherPieces_30 ⟨(Nat.le_of_ble_eq_true rfl), (Nat.le_of_ble_eq_true rfl)⟩) ?_
          refine W.eq (g2 := F0 m 33 ls [.int q7]) rfl ?_
          refine lv_istore (lv' := [(5, .int q7), (4, .ref (hL i4)), (3, .int x3), (0, .ref h_bc), (1, .int x1), (2, .int x2)]) hx hb d_Bc_gatherPieces_33 hl (by decide) rfl (fun ls hl => ?_)
          refine lv_iload hx hb d_Bc_gatherPieces_35 (lv_at hl 0 rfl) ?_
          refine lv_if_ne (tgt := 42) hx hb d_Bc_gatherPieces_37 (by decide) (fun c8 => ?_) (fun c8 => ?_)
          · have hf := op_e hf c8
            refine lv_iconst (v := 0) hx hb d_Bc_gatherPieces_42 (by decide) ?_
            refine lv_istore (lv' := [(6, .int 0), (5, .int q7), (4, .ref (hL i4)), (3, .int x3), (0, .ref h_bc), (1, .int x1), (2, .int x2)]) hx hb d_Bc_gatherPieces_43 hl (by decide) rfl (fun ls hl => ?_)
            have lp_45 : ∀ (n : Nat) (x1 : Int32) (x2 : Int32) (x3 : Int32) (x5 : Int32) (x6 : Int32) (bc : MS) (sg : MS) (tr : MS) (tu : MS) (ff : MS) (pl : MS) (lw : MS) (Rl : Int32 × MS × MS × MS × MS × MS × MS × MS), l_Bc_gatherPieces_45 n x1 x2 x3 x5 x6 nl nT LS TS FP FS i4 bc sg tr tu ff pl lw = some Rl → ∀ (H : Heap) (locs : List Loc), va_P (dC, dI) vwCl (w_Bc_ h_bc ad_bc tC rf bc ++ (w_Sg_ (ad_bc 100) ad_sg tC sg ++ (w_Tr_ (ad_bc 104) ad_tr tC tr ++ (w_Tr_ (ad_bc 105) ad_tu tC tu ++ (w_Ff_ (ad_bc 103) ad_ff tC ff ++ (w_Pl_ (ad_bc 101) ad_pl tC pl ++ (w_Lw_ (ad_bc 102) ad_lw tC lw ++ TL))))))) H → va_D A (w_Bc_ h_bc ad_bc tC rf bc ++ (w_Sg_ (ad_bc 100) ad_sg tC sg ++ (w_Tr_ (ad_bc 104) ad_tr tC tr ++ (w_Tr_ (ad_bc 105) ad_tu tC tu ++ (w_Ff_ (ad_bc 103) ad_ff tC ff ++ (w_Pl_ (ad_bc 101) ad_pl tC pl ++ (w_Lw_ (ad_bc 102) ad_lw tC lw ++ TL))))))) → va_S A s.heap H locs → ∀ ls : Array Slot, lv_has ls 7 [(6, .int x6), (5, .int x5), (4, .ref (hL i4)), (3, .int x3), (0, .ref h_bc), (1, .int x1), (2, .int x2)] → (∀ (H : Heap) (locs : List Loc), va_P (dC, dI) vwCl (w_Bc_ h_bc ad_bc tC rf Rl.2.1 ++ (w_Sg_ (ad_bc 100) ad_sg tC Rl.2.2.1 ++ (w_Tr_ (ad_bc 104) ad_tr tC Rl.2.2.2.1 ++ (w_Tr_ (ad_bc 105) ad_tu tC Rl.2.2.2.2.1 ++ (w_Ff_ (ad_bc 103) ad_ff tC Rl.2.2.2.2.2.1 ++ (w_Pl_ (ad_bc 101) ad_pl tC Rl.2.2.2.2.2.2.1 ++ (w_Lw_ (ad_bc 102) ad_lw tC Rl.2.2.2.2.2.2.2 ++ TL))))))) H → va_D A (w_Bc_ h_bc ad_bc tC rf Rl.2.1 ++ (w_Sg_ (ad_bc 100) ad_sg tC Rl.2.2.1 ++ (w_Tr_ (ad_bc 104) ad_tr tC Rl.2.2.2.1 ++ (w_Tr_ (ad_bc 105) ad_tu tC Rl.2.2.2.2.1 ++ (w_Ff_ (ad_bc 103) ad_ff tC Rl.2.2.2.2.2.1 ++ (w_Pl_ (ad_bc 101) ad_pl tC Rl.2.2.2.2.2.2.1 ++ (w_Lw_ (ad_bc 102) ad_lw tC Rl.2.2.2.2.2.2.2 ++ TL))))))) → va_S A s.heap H locs → ∀ ls : Array Slot, lv_has ls 7 [(6, .int Rl.1), (5, .int x5), (4, .ref (hL i4)), (3, .int x3), (0, .ref h_bc), (1, .int x1), (2, .int x2)] → W p l e rm_Bc_gatherPieces s m args below meth c H locs 0 0 Q (F0 m 72 ls [])) → W p l e rm_Bc_gatherPieces s m args below meth c H locs 0 0 Q (F0 m 45 ls []) := by
              intro n
              induction n with
              | zero => intro x1 x2 x3 x5 x6 bc sg tr tu ff pl lw Rl hf; cases hf
              | succ n ih_45 =>
                intro x1 x2 x3 x5 x6 bc sg tr tu ff pl lw Rl hf H locs hP hD hS ls hl Kk
                rw [l_Bc_gatherPieces_45] at hf
                refine lv_iload hx hb d_Bc_gatherPieces_45 (lv_at hl 0 rfl) ?_
                refine lv_aload hx hb d_Bc_gatherPieces_47 (lv_at hl 2 rfl) ?_
                obtain ⟨k10, hk10⟩ := List.getElem?_of_mem (List.mem_append_right _ (List.mem_append_right _ (List.mem_append_right _ (List.mem_append_right _ (List.mem_append_right _ (List.mem_append_right _ (List.mem_append_right _ ((hFM.1 i4 hg3) _ (List.mem_of_getElem? (i := 0) rfl)))))))))
                refine va_get (D := (dC, dI)) (ci := 2) (v := .int ((LS i4).1 2)) (C := RX2) (T := TX2) (N := 9) hx hb hts in_X2 hown hK hP k10 hk10 rfl 3 (by decide) (hts _ kF_8_123) (fun _ h9 => h9) rfl d_Bc_gatherPieces_49 ?_
                refine lv_icmp_ge (tgt := 72) hx hb d_Bc_gatherPieces_52 (by decide) (fun c11 => ?_) (fun c11 => ?_)
                · have hf := op_t hf c11
                  obtain rfl := Option.some.inj hf
                  exact Kk _ _ hP hD hS _ (lv_sub hl [0, 1, 2, 3, 4, 5, 6] rfl)
                · have hf := op_e hf c11
                  refine lv_aload_n hx hb d_Bc_gatherPieces_55 rfl (lv_at hl 4 rfl) ?_
                  refine va_get (D := (dC, dI)) (ci := 8) (v := .ref (ad_bc 101)) (C := RX8) (T := TX8) (N := 12) hx hb hts in_X8 hown hK hP 0 rfl rfl 5 (by decide) (hts _ kF_8_41) (fun _ h9 => h9) rfl d_Bc_gatherPieces_56 ?_
                  refine lv_iload_n hx hb d_Bc_gatherPieces_59 rfl (lv_at hl 6 rfl) ?_
                  refine lv_iload_n hx hb d_Bc_gatherPieces_60 rfl (lv_at hl 3 rfl) ?_
                  refine lv_iload hx hb d_Bc_gatherPieces_61 (lv_at hl 1 rfl) ?_
                  obtain ⟨q12, hq12, hf⟩ := op_b hf
                  have hPx := cv_P (ws' := (w_Bc_ h_bc ad_bc tC rf bc ++ (w_Sg_ (ad_bc 100) ad_sg tC sg ++ (w_Tr_ (ad_bc 104) ad_tr tC tr ++ (w_Tr_ (ad_bc 105) ad_tu tC tu ++ w_Ff_ (ad_bc 103) ad_ff tC ff)))) ++ ((w_Pl_ (ad_bc 101) ad_pl tC pl) ++ (w_Lw_ (ad_bc 102) ad_lw tC lw ++ TL))) hP (by simp only [List.append_assoc, List.nil_append])
                  have hDx := cv_D (ws' := (w_Bc_ h_bc ad_bc tC rf bc ++ (w_Sg_ (ad_bc 100) ad_sg tC sg ++ (w_Tr_ (ad_bc 104) ad_tr tC tr ++ (w_Tr_ (ad_bc 105) ad_tu tC tu ++ w_Ff_ (ad_bc 103) ad_ff tC ff)))) ++ ((w_Pl_ (ad_bc 101) ad_pl tC pl) ++ (w_Lw_ (ad_bc 102) ad_lw tC lw ++ TL))) hD (by simp only [List.append_assoc, List.nil_append])
                  obtain ⟨hPc, hDc, hFc⟩ := bk_cut0 hPx hDx hS hA
                  refine wr_go (va_runV (As := [.int x2, .int x3, .int x5]) (rest := []) ⟨hx, hb, hml, hown, hts⟩ (m_Pl_addPiece l dC dI tC (ad_bc 101) ad_pl pl x2 x3 x5 q12 hq12 _) (cwV 3 hts (gd_V kM_8_258 kI_Pl_addPiece kV_Pl_addPiece kZ_3 kC_Pl_addPiece) rfl rfl rfl (by decide +kernel) ⟨(Nat.le_of_ble_eq_true rfl), (Nat.le_of_ble_eq_true rfl)⟩) ⟨wr_blind, va_recv hK hP (ci := 3) (q0 := 21) rfl rfl, wr_pre hK hPc hDc⟩ rfl rfl hl.1 rfl (lv_room (Nat.le_of_ble_eq_true rfl)) d_Bc_gatherPieces_63 ⟨(Nat.le_of_ble_eq_true rfl), (Nat.le_of_ble_eq_true rfl)⟩) hS hFc (fun r w1 H1 locs hw hP1 hD1 hk1 hS => ?_)
                  obtain ⟨rfl, rfl⟩ := hw
                  obtain ⟨hP, hD⟩ := bk_join0 (B1 := (w_Pl_ (ad_bc 101) ad_pl tC q12.2)) hPx hDx hk1 hP1 rfl
                  clear hP1 hD1 hk1 hPc hDc hFc hPx hDx
                  have hP := cv_P (ws' := (w_Bc_ h_bc ad_bc tC rf bc ++ (w_Sg_ (ad_bc 100) ad_sg tC sg ++ (w_Tr_ (ad_bc 104) ad_tr tC tr ++ (w_Tr_ (ad_bc 105) ad_tu tC tu ++ (w_Ff_ (ad_bc 103) ad_ff tC ff ++ (w_Pl_ (ad_bc 101) ad_pl tC q12.2 ++ (w_Lw_ (ad_bc 102) ad_lw tC lw ++ TL)))))))) hP (by simp only [List.append_assoc, List.nil_append])
                  have hD := cv_D (ws' := (w_Bc_ h_bc ad_bc tC rf bc ++ (w_Sg_ (ad_bc 100) ad_sg tC sg ++ (w_Tr_ (ad_bc 104) ad_tr tC tr ++ (w_Tr_ (ad_bc 105) ad_tu tC tu ++ (w_Ff_ (ad_bc 103) ad_ff tC ff ++ (w_Pl_ (ad_bc 101) ad_pl tC q12.2 ++ (w_Lw_ (ad_bc 102) ad_lw tC lw ++ TL)))))))) hD (by simp only [List.append_assoc, List.nil_append])
                  refine W.eq (g2 := F0 m 66 ls []) rfl ?_
                  refine lv_iinc (v := x6 + 1) (lv' := [(6, .int (x6 + 1)), (5, .int x5), (4, .ref (hL i4)), (3, .int x3), (0, .ref h_bc), (1, .int x1), (2, .int x2)]) hx hb d_Bc_gatherPieces_66 hl (k := 0) rfl rfl (by decide) rfl (fun ls hl => ?_)
                  refine lv_goto (tgt := 45) hx hb d_Bc_gatherPieces_69 (by decide) ?_
                  exact ih_45 x1 x2 x3 x5 (x6 + 1) bc sg tr tu ff q12.2 lw Rl hf _ _ hP hD hS _ (lv_sub hl [0, 1, 2, 3, 4, 5, 6] rfl) Kk
            obtain ⟨q9, hq9, hf⟩ := op_b hf
            refine lp_45 fu x1 x2 x3 q7 0 bc sg tr tu ff pl lw q9 hq9 _ _ hP hD hS _ (lv_sub hl [0, 1, 2, 3, 4, 5, 6] rfl) ?_
            intro H locs hP hD hS ls hl
            refine lv_iinc (v := x3 + 1) (lv' := [(3, .int (x3 + 1)), (6, .int q9.1), (5, .int q7), (4, .ref (hL i4)), (0, .ref h_bc), (1, .int x1), (2, .int x2)]) hx hb d_Bc_gatherPieces_72 hl (k := 3) rfl rfl (by decide) rfl (fun ls hl => ?_)
            refine lv_goto (tgt := 2) hx hb d_Bc_gatherPieces_75 (by decide) ?_
            exact ih_2 x1 x2 (x3 + 1) q9.2.1 q9.2.2.1 q9.2.2.2.1 q9.2.2.2.2.1 q9.2.2.2.2.2.1 q9.2.2.2.2.2.2.1 q9.2.2.2.2.2.2.2 hf _ _ hP hD hS _ (lv_sub hl [0, 4, 5, 6] rfl)
          · have hf := op_t hf c8
            refine lv_iconst (v := 0) hx hb d_Bc_gatherPieces_40 (by decide) ?_
            obtain rfl := Option.some.inj hf
            subst hQ
            subst hAe
            exact W.zret (v := 0) (ty := .boolean) hx hb hr (by decide) (fun t ht hW => ⟨⟨_, _, rfl, ⟨rfl, rfl⟩, by rw [ht]; exact hP, hD⟩, hS.F ht⟩) hS.2.2 d_Bc_gatherPieces_41
  exact lp_2 fu p1 p2 0 bc sg tr tu ff pl lw hf _ _ hP hD hS _ (lv_sub hl [0, 1, 2, 3] rfl)
def f_Bc_cutDiameter (nl : Nat) (nT : Nat → Nat) (LS : Nat → MS) (TS : Nat → MS) (FP : Nat → Bool) (FS : Nat → MS) (bc : MS) (sg : MS) (tr : MS) (tu : MS) (ff : MS) (pl : MS) (lw : MS) (p1 : Int32) (p2 : Int32) : Option (Int32 × MS × MS × MS × MS × MS × MS × MS) := (some (pl.1 0) : Option Int32).bind fun v1 => (f_Bc_gatherPieces nl nT LS TS FP FS bc sg tr tu ff pl lw p1 v1).bind fun q2 => (if q2.1 = 0 then some (0, q2.2.1, q2.2.2.1, q2.2.2.2.1, q2.2.2.2.2.1, q2.2.2.2.2.2.1, q2.2.2.2.2.2.2.1, q2.2.2.2.2.2.2.2) else (some ((q2.2.2.2.2.2.2.1.1 0) - v1) : Option Int32).bind fun v4 => (if v4 = 0 then some (1, q2.2.1, q2.2.2.1, q2.2.2.2.1, q2.2.2.2.2.1, q2.2.2.2.2.2.1, q2.2.2.2.2.2.2.1, q2.2.2.2.2.2.2.2) else if ix (p1 - 4) 37 then (if FP ((p1 - 4).toNatClampNeg) = true then (some (sI q2.2.2.2.2.2.2.1 2 ((q2.2.2.2.2.2.2.1.1 2) + 1))).bind fun pl8 => (if v4 ≤ p2 then (some (sI pl8 3 ((pl8.1 3) + 1))).bind fun pl10 => (f_Lw_cut pl10 q2.2.2.2.2.2.2.2 (FS ((p1 - 4).toNatClampNeg)) v1 p1).bind fun q11 => if q11.1 = 0 ∨ q11.1 = 1 then some (q11.1, q2.2.1, q2.2.2.1, q2.2.2.2.1, q2.2.2.2.2.1, q2.2.2.2.2.2.1, q11.2.1, q11.2.2) else none else (f_Ff_cut q2.2.2.2.2.2.1 pl8 (FS ((p1 - 4).toNatClampNeg)) v1 p1).bind fun q13 => if q13.1 = 0 ∨ q13.1 = 1 then some (q13.1, q2.2.1, q2.2.2.1, q2.2.2.2.1, q2.2.2.2.2.1, q13.2.1, q13.2.2, q2.2.2.2.2.2.2.2) else none) else some (0, q2.2.1, q2.2.2.1, q2.2.2.2.1, q2.2.2.2.2.1, q2.2.2.2.2.2.1, q2.2.2.2.2.2.2.1, q2.2.2.2.2.2.2.2)) else none))
def rm_Bc_cutDiameter : Room := { frames := 132, cells := 0, slots := 0, locals := 7849 }
set_option maxHeartbeats 4000000 in
set_option maxRecDepth 100000 in
theorem m_Bc_cutDiameter (l : Launch) (dC : Nat → ClassId) (dI : Nat → Nat → Nat) (tC : Nat → ClassId) (TL : va_W) (nl : Nat) (hL : Nat → Nat) (adL aT : Nat → Nat → Nat) (nT : Nat → Nat) (LS TS : Nat → MS) (FP : Nat → Bool) (hF : Nat → Nat) (adF : Nat → Nat → Nat) (FS : Nat → MS) (rf : Nat → Nat → Option Nat) (h_bc : Nat) (ad_bc : Nat → Nat) (bc : MS) (ad_sg : Nat → Nat) (sg : MS) (ad_tr : Nat → Nat) (tr : MS) (ad_tu : Nat → Nat) (tu : MS) (ad_ff : Nat → Nat) (ff : MS) (ad_pl : Nat → Nat) (pl : MS) (ad_lw : Nat → Nat) (lw : MS) (p1 : Int32) (p2 : Int32) (R : Int32 × MS × MS × MS × MS × MS × MS × MS) (hFM : FM tC TL nl hL adL aT nT LS TS FP hF adF FS rf) (hf : f_Bc_cutDiameter nl nT LS TS FP FS bc sg tr tu ff pl lw p1 p2 = some R) (sz : Nat) : Met l y_Bc_cutDiameter w_Bc_cutDiameter rm_Bc_cutDiameter (wrP (dC, dI) tC (w_Bc_ h_bc ad_bc tC rf bc ++ (w_Sg_ (ad_bc 100) ad_sg tC sg ++ (w_Tr_ (ad_bc 104) ad_tr tC tr ++ (w_Tr_ (ad_bc 105) ad_tu tC tu ++ (w_Ff_ (ad_bc 103) ad_ff tC ff ++ (w_Pl_ (ad_bc 101) ad_pl tC pl ++ (w_Lw_ (ad_bc 102) ad_lw tC lw ++ TL))))))) sz [.ref h_bc, .int p1, .int p2]) (wrQ (dC, dI) (w_Bc_ h_bc ad_bc tC rf bc ++ (w_Sg_ (ad_bc 100) ad_sg tC sg ++ (w_Tr_ (ad_bc 104) ad_tr tC tr ++ (w_Tr_ (ad_bc 105) ad_tu tC tu ++ (w_Ff_ (ad_bc 103) ad_ff tC ff ++ (w_Pl_ (ad_bc 101) ad_pl tC pl ++ (w_Lw_ (ad_bc 102) ad_lw tC lw ++ TL))))))) sz (fun r w => r = (some (.int R.1)) ∧ w = (w_Bc_ h_bc ad_bc tC rf R.2.1 ++ (w_Sg_ (ad_bc 100) ad_sg tC R.2.2.1 ++ (w_Tr_ (ad_bc 104) ad_tr tC R.2.2.2.1 ++ (w_Tr_ (ad_bc 105) ad_tu tC R.2.2.2.2.1 ++ (w_Ff_ (ad_bc 103) ad_ff tC R.2.2.2.2.2.1 ++ (w_Pl_ (ad_bc 101) ad_pl tC R.2.2.2.2.2.2.1 ++ (w_Lw_ (ad_bc 102) ad_lw tC R.2.2.2.2.2.2.2 ++ TL))))))))) 0 0 (va_A (w_Bc_ h_bc ad_bc tC rf bc ++ (w_Sg_ (ad_bc 100) ad_sg tC sg ++ (w_Tr_ (ad_bc 104) ad_tr tC tr ++ (w_Tr_ (ad_bc 105) ad_tu tC tu ++ (w_Ff_ (ad_bc 103) ad_ff tC ff ++ (w_Pl_ (ad_bc 101) ad_pl tC pl ++ (w_Lw_ (ad_bc 102) ad_lw tC lw ++ TL))))))) sz) := by
  refine Met.ofW (cc := c_Bc_cutDiameter) (maxL := 6) (ret := (some (.boolean))) (by decide) rfl ?_
  intro p e s m args below meth c s₁ B hml hv
  obtain ⟨hav, hsz, hP, hK, hD0⟩ := hv
  have hx := B.exec
  have hb := B.bytes
  have hr := B.returns
  have hts : ∀ w ∈ gw, w.before args s = true := fun w h => atoms_spec (ws := w_Bc_cutDiameter) B.pre w (List.mem_cons_of_mem _ h)
  have hown : s.vm.findClass RX8 = some m.cls := findClass_of_methodNamed B.named
  have hlocks := B.notSynchronized
  subst hsz
  have hD := hD0.self (sz := s.heap.size)
  obtain ⟨A, hAe⟩ : ∃ z, z = va_A (w_Bc_ h_bc ad_bc tC rf bc ++ (w_Sg_ (ad_bc 100) ad_sg tC sg ++ (w_Tr_ (ad_bc 104) ad_tr tC tr ++ (w_Tr_ (ad_bc 105) ad_tu tC tu ++ (w_Ff_ (ad_bc 103) ad_ff tC ff ++ (w_Pl_ (ad_bc 101) ad_pl tC pl ++ (w_Lw_ (ad_bc 102) ad_lw tC lw ++ TL))))))) s.heap.size := ⟨_, rfl⟩
  rw [← hAe] at hD
  have hA : ∀ q : Nat, s.heap.size ≤ q → A q := fun q h => by rw [hAe]; exact Or.inr h
  have hS : va_S A s.heap s.heap [] := va_S.rf
  refine q_w (R := rm_Bc_cutDiameter) (fun Q hQ => ?_)
  refine en_w (av := [.ref h_bc, .int p1, .int p2]) hav (Nat.le_of_ble_eq_true rfl) (fun ls hl => ?_)
  have hl : lv_has ls 6 [(0, .ref h_bc), (1, .int p1), (2, .int p2)] := hl
  unfold f_Bc_cutDiameter at hf
  refine lv_aload_n hx hb d_Bc_cutDiameter_0 rfl (lv_at hl 0 rfl) ?_
  refine va_get (D := (dC, dI)) (ci := 8) (v := .ref (ad_bc 101)) (C := RX8) (T := TX8) (N := 12) hx hb hts in_X8 hown hK hP 0 rfl rfl 5 (by decide) (hts _ kF_8_41) (fun _ h9 => h9) rfl d_Bc_cutDiameter_1 ?_
  refine va_get (D := (dC, dI)) (ci := 3) (v := .int (pl.1 0)) (C := RX3) (T := TX3) (N := 12) hx hb hts in_X3 hown hK hP 21 rfl rfl 7 (by decide) (hts _ kF_8_247) (fun _ h9 => h9) rfl d_Bc_cutDiameter_4 ?_
  obtain ⟨v1, hv1, hf⟩ := op_b hf
  refine rw_i (y := v1) (Option.some.inj hv1) ?_
  refine lv_istore_n (lv' := [(3, .int v1), (0, .ref h_bc), (1, .int p1), (2, .int p2)]) hx hb d_Bc_cutDiameter_7 rfl hl (by decide) rfl (fun ls hl => ?_)
  refine lv_aload_n hx hb d_Bc_cutDiameter_8 rfl (lv_at hl 1 rfl) ?_
  refine lv_iload_n hx hb d_Bc_cutDiameter_9 rfl (lv_at hl 2 rfl) ?_
  refine lv_iload_n hx hb d_Bc_cutDiameter_10 rfl (lv_at hl 0 rfl) ?_
  obtain ⟨q2, hq2, hf⟩ := op_b hf
  have hFc : ∀ q, va_A (w_Bc_ h_bc ad_bc tC rf bc ++ (w_Sg_ (ad_bc 100) ad_sg tC sg ++ (w_Tr_ (ad_bc 104) ad_tr tC tr ++ (w_Tr_ (ad_bc 105) ad_tu tC tu ++ (w_Ff_ (ad_bc 103) ad_ff tC ff ++ (w_Pl_ (ad_bc 101) ad_pl tC pl ++ (w_Lw_ (ad_bc 102) ad_lw tC lw ++ TL))))))) _ q → A q := va_freeAll hD hS hA
  refine wr_go (va_runV (As := [.int p1, .int v1]) (rest := []) ⟨hx, hb, hml, hown, hts⟩ (m_Bc_gatherPieces l dC dI tC TL nl hL adL aT nT LS TS FP hF adF FS rf h_bc ad_bc bc ad_sg sg ad_tr tr ad_tu tu ad_ff ff ad_pl pl ad_lw lw p1 v1  q2 hFM hq2 _) (cwV 2 hts (gd_V kM_8_250 kI_Bc_gatherPieces kV_Bc_gatherPieces kZ_8 kC_Bc_gatherPieces) rfl rfl rfl (by decide +kernel) ⟨(Nat.le_of_ble_eq_true rfl), (Nat.le_of_ble_eq_true rfl)⟩) ⟨wr_blind, va_recv hK hP (ci := 8) (q0 := 0) rfl rfl, wr_pre hK hP hD⟩ rfl rfl hl.1 rfl (lv_room (Nat.le_of_ble_eq_true rfl)) d_Bc_cutDiameter_11 ⟨(Nat.le_of_ble_eq_true rfl), (Nat.le_of_ble_eq_true rfl)⟩) hS hFc (fun r w1 H1 locs hw hP1 hD1 hk1 hS => ?_)
  obtain ⟨rfl, rfl⟩ := hw
  have hP := hP1
  have hD := hD1.weaken (fun _ q _ h => hFc q.1 h)
  clear hP1 hD1 hk1 hFc
  refine W.eq (g2 := F0 m 14 ls [.int q2.1]) rfl ?_
  refine lv_if_ne (tgt := 19) hx hb d_Bc_cutDiameter_14 (by decide) (fun c3 => ?_) (fun c3 => ?_)
  · have hf := op_e hf c3
    refine lv_aload_n hx hb d_Bc_cutDiameter_19 rfl (lv_at hl 1 rfl) ?_
    refine va_get (D := (dC, dI)) (ci := 8) (v := .ref (ad_bc 101)) (C := RX8) (T := TX8) (N := 12) hx hb hts in_X8 hown hK hP 0 rfl rfl 5 (by decide) (hts _ kF_8_41) (fun _ h9 => h9) rfl d_Bc_cutDiameter_20 ?_
    refine va_get (D := (dC, dI)) (ci := 3) (v := .int (q2.2.2.2.2.2.2.1.1 0)) (C := RX3) (T := TX3) (N := 12) hx hb hts in_X3 hown hK hP 21 rfl rfl 7 (by decide) (hts _ kF_8_247) (fun _ h9 => h9) rfl d_Bc_cutDiameter_23 ?_
    refine lv_iload_n hx hb d_Bc_cutDiameter_26 rfl (lv_at hl 0 rfl) ?_
    refine lv_isub hx hb d_Bc_cutDiameter_27 ?_
    obtain ⟨v4, hv4, hf⟩ := op_b hf
    refine rw_i (y := v4) (Option.some.inj hv4) ?_
    refine lv_istore (lv' := [(4, .int v4), (3, .int v1), (0, .ref h_bc), (1, .int p1), (2, .int p2)]) hx hb d_Bc_cutDiameter_28 hl (by decide) rfl (fun ls hl => ?_)
    refine lv_iload hx hb d_Bc_cutDiameter_30 (lv_at hl 0 rfl) ?_
    refine lv_if_ne (tgt := 37) hx hb d_Bc_cutDiameter_32 (by decide) (fun c5 => ?_) (fun c5 => ?_)
    · have hf := op_e hf c5
      refine lv_aload_n hx hb d_Bc_cutDiameter_37 rfl (lv_at hl 2 rfl) ?_
      refine va_get (D := (dC, dI)) (ci := 8) (v := .ref (ad_bc 3)) (C := RX8) (T := TX8) (N := 12) hx hb hts in_X8 hown hK hP 0 rfl rfl 4 (by decide) (hts _ kF_8_34) (fun _ h9 => h9) rfl d_Bc_cutDiameter_38 ?_
      refine lv_iload_n hx hb d_Bc_cutDiameter_41 rfl (lv_at hl 3 rfl) ?_
      refine lv_iconst (v := 4) hx hb d_Bc_cutDiameter_42 (by decide) ?_
      refine lv_isub hx hb d_Bc_cutDiameter_43 ?_
      obtain ⟨hi6, hf⟩ := op_if hf
      refine va_aldq (f := rf 2) hx hb hK hP 4 6 rfl rfl (ix_in hi6) d_Bc_cutDiameter_44 ?_
      by_cases hg7 : FP ((p1 - 4).toNatClampNeg) = true
      · have hf := op_t hf hg7
        refine rw_s (hFM.2.2.2.2.1 _ hg7) ?_
        refine lv_astore (lv' := [(5, .ref (hF ((p1 - 4).toNatClampNeg))), (4, .int v4), (3, .int v1), (0, .ref h_bc), (1, .int p1), (2, .int p2)]) hx hb d_Bc_cutDiameter_45 hl (by decide) rfl (fun ls hl => ?_)
        refine lv_aload hx hb d_Bc_cutDiameter_47 (lv_at hl 0 rfl) ?_
        refine lv_ifnonnull (tgt := 54) hx hb d_Bc_cutDiameter_49 (by decide) ?_
        refine lv_aload_n hx hb d_Bc_cutDiameter_54 rfl (lv_at hl 3 rfl) ?_
        refine va_get (D := (dC, dI)) (ci := 8) (v := .ref (ad_bc 101)) (C := RX8) (T := TX8) (N := 12) hx hb hts in_X8 hown hK hP 0 rfl rfl 5 (by decide) (hts _ kF_8_41) (fun _ h9 => h9) rfl d_Bc_cutDiameter_55 ?_
        refine lv_dup hx hb d_Bc_cutDiameter_58 rfl ?_
        refine va_get (D := (dC, dI)) (ci := 3) (v := .int (q2.2.2.2.2.2.2.1.1 2)) (C := RX3) (T := TX3) (N := 12) hx hb hts in_X3 hown hK hP 21 rfl rfl 9 (by decide) (hts _ kF_8_161) (fun _ h9 => h9) rfl d_Bc_cutDiameter_59 ?_
        refine lv_iconst (v := 1) hx hb d_Bc_cutDiameter_62 (by decide) ?_
        refine lv_iadd hx hb d_Bc_cutDiameter_63 ?_
        refine va_put (D := (dC, dI)) (ci := 3) (v := .int ((q2.2.2.2.2.2.2.1.1 2) + 1)) (ty := .int) (C := RX3) (T := TX3) (N := 12) hx hb hts in_X3 tyX3 tyX3_ok nmX3 hown hK hP hD hS 21 (fs := [.ref (ad_pl 0), .ref (ad_pl 1), .ref (ad_pl 2), .ref (ad_pl 3), .ref (ad_pl 4), .ref (ad_pl 5), .ref (ad_pl 6), .int (q2.2.2.2.2.2.2.1.1 0), .int (q2.2.2.2.2.2.2.1.1 1), .int (q2.2.2.2.2.2.2.1.1 2), .int (q2.2.2.2.2.2.2.1.1 3), .int (q2.2.2.2.2.2.2.1.1 4)]) rfl rfl 9 (by decide) (hts _ kF_8_161) (fun _ h9 => h9) rfl (by decide +kernel) (rfl) (rfl) (Nat.le_of_ble_eq_true rfl) d_Bc_cutDiameter_64 (fun H locs hP hD hS => ?_)
        rw [sr_Bc, sr_Sg, sr_Tr, sr_Tr, sr_Ff, sl_Pl_0, wu_Pl_s2] at hP hD
        obtain ⟨pl8, hpl8, hf⟩ := op_b hf
        have hP : va_P (dC, dI) vwCl (w_Bc_ h_bc ad_bc tC rf q2.2.1 ++ (w_Sg_ (ad_bc 100) ad_sg tC q2.2.2.1 ++ (w_Tr_ (ad_bc 104) ad_tr tC q2.2.2.2.1 ++ (w_Tr_ (ad_bc 105) ad_tu tC q2.2.2.2.2.1 ++ (w_Ff_ (ad_bc 103) ad_ff tC q2.2.2.2.2.2.1 ++ (w_Pl_ (ad_bc 101) ad_pl tC pl8 ++ (w_Lw_ (ad_bc 102) ad_lw tC q2.2.2.2.2.2.2.2 ++ TL))))))) H := by rw [← Option.some.inj hpl8]; exact hP
        have hD : va_D A (w_Bc_ h_bc ad_bc tC rf q2.2.1 ++ (w_Sg_ (ad_bc 100) ad_sg tC q2.2.2.1 ++ (w_Tr_ (ad_bc 104) ad_tr tC q2.2.2.2.1 ++ (w_Tr_ (ad_bc 105) ad_tu tC q2.2.2.2.2.1 ++ (w_Ff_ (ad_bc 103) ad_ff tC q2.2.2.2.2.2.1 ++ (w_Pl_ (ad_bc 101) ad_pl tC pl8 ++ (w_Lw_ (ad_bc 102) ad_lw tC q2.2.2.2.2.2.2.2 ++ TL))))))) := by rw [← Option.some.inj hpl8]; exact hD
        refine lv_iload hx hb d_Bc_cutDiameter_67 (lv_at hl 1 rfl) ?_
        refine lv_iload_n hx hb d_Bc_cutDiameter_69 rfl (lv_at hl 5 rfl) ?_
        refine lv_icmp_le (tgt := 89) hx hb d_Bc_cutDiameter_70 (by decide) (fun c9 => ?_) (fun c9 => ?_)
        · have hf := op_t hf c9
          refine lv_aload_n hx hb d_Bc_cutDiameter_89 rfl (lv_at hl 3 rfl) ?_
          refine va_get (D := (dC, dI)) (ci := 8) (v := .ref (ad_bc 101)) (C := RX8) (T := TX8) (N := 12) hx hb hts in_X8 hown hK hP 0 rfl rfl 5 (by decide) (hts _ kF_8_41) (fun _ h9 => h9) rfl d_Bc_cutDiameter_90 ?_
          refine lv_dup hx hb d_Bc_cutDiameter_93 rfl ?_
          refine va_get (D := (dC, dI)) (ci := 3) (v := .int (pl8.1 3)) (C := RX3) (T := TX3) (N := 12) hx hb hts in_X3 hown hK hP 21 rfl rfl 10 (by decide) (hts _ kF_8_158) (fun _ h9 => h9) rfl d_Bc_cutDiameter_94 ?_
          refine lv_iconst (v := 1) hx hb d_Bc_cutDiameter_97 (by decide) ?_
          refine lv_iadd hx hb d_Bc_cutDiameter_98 ?_
          refine va_put (D := (dC, dI)) (ci := 3) (v := .int ((pl8.1 3) + 1)) (ty := .int) (C := RX3) (T := TX3) (N := 12) hx hb hts in_X3 tyX3 tyX3_ok nmX3 hown hK hP hD hS 21 (fs := [.ref (ad_pl 0), .ref (ad_pl 1), .ref (ad_pl 2), .ref (ad_pl 3), .ref (ad_pl 4), .ref (ad_pl 5), .ref (ad_pl 6), .int (pl8.1 0), .int (pl8.1 1), .int (pl8.1 2), .int (pl8.1 3), .int (pl8.1 4)]) rfl rfl 10 (by decide) (hts _ kF_8_158) (fun _ h9 => h9) rfl (by decide +kernel) (rfl) (rfl) (Nat.le_of_ble_eq_true rfl) d_Bc_cutDiameter_99 (fun H locs hP hD hS => ?_)
          rw [sr_Bc, sr_Sg, sr_Tr, sr_Tr, sr_Ff, sl_Pl_0, wu_Pl_s3] at hP hD
          obtain ⟨pl10, hpl10, hf⟩ := op_b hf
          have hP : va_P (dC, dI) vwCl (w_Bc_ h_bc ad_bc tC rf q2.2.1 ++ (w_Sg_ (ad_bc 100) ad_sg tC q2.2.2.1 ++ (w_Tr_ (ad_bc 104) ad_tr tC q2.2.2.2.1 ++ (w_Tr_ (ad_bc 105) ad_tu tC q2.2.2.2.2.1 ++ (w_Ff_ (ad_bc 103) ad_ff tC q2.2.2.2.2.2.1 ++ (w_Pl_ (ad_bc 101) ad_pl tC pl10 ++ (w_Lw_ (ad_bc 102) ad_lw tC q2.2.2.2.2.2.2.2 ++ TL))))))) H := by rw [← Option.some.inj hpl10]; exact hP
          have hD : va_D A (w_Bc_ h_bc ad_bc tC rf q2.2.1 ++ (w_Sg_ (ad_bc 100) ad_sg tC q2.2.2.1 ++ (w_Tr_ (ad_bc 104) ad_tr tC q2.2.2.2.1 ++ (w_Tr_ (ad_bc 105) ad_tu tC q2.2.2.2.2.1 ++ (w_Ff_ (ad_bc 103) ad_ff tC q2.2.2.2.2.2.1 ++ (w_Pl_ (ad_bc 101) ad_pl tC pl10 ++ (w_Lw_ (ad_bc 102) ad_lw tC q2.2.2.2.2.2.2.2 ++ TL))))))) := by rw [← Option.some.inj hpl10]; exact hD
          refine lv_aload_n hx hb d_Bc_cutDiameter_102 rfl (lv_at hl 3 rfl) ?_
          refine va_get (D := (dC, dI)) (ci := 8) (v := .ref (ad_bc 102)) (C := RX8) (T := TX8) (N := 12) hx hb hts in_X8 hown hK hP 0 rfl rfl 6 (by decide) (hts _ kF_8_48) (fun _ h9 => h9) rfl d_Bc_cutDiameter_103 ?_
          refine lv_aload_n hx hb d_Bc_cutDiameter_106 rfl (lv_at hl 3 rfl) ?_
          refine va_get (D := (dC, dI)) (ci := 8) (v := .ref (ad_bc 101)) (C := RX8) (T := TX8) (N := 12) hx hb hts in_X8 hown hK hP 0 rfl rfl 5 (by decide) (hts _ kF_8_41) (fun _ h9 => h9) rfl d_Bc_cutDiameter_107 ?_
          refine lv_iload_n hx hb d_Bc_cutDiameter_110 rfl (lv_at hl 2 rfl) ?_
          refine lv_iload_n hx hb d_Bc_cutDiameter_111 rfl (lv_at hl 4 rfl) ?_
          refine lv_aload hx hb d_Bc_cutDiameter_112 (lv_at hl 0 rfl) ?_
          obtain ⟨q11, hq11, hf⟩ := op_b hf
          have hPx := cv_P (ws' := (w_Bc_ h_bc ad_bc tC rf q2.2.1 ++ (w_Sg_ (ad_bc 100) ad_sg tC q2.2.2.1 ++ (w_Tr_ (ad_bc 104) ad_tr tC q2.2.2.2.1 ++ (w_Tr_ (ad_bc 105) ad_tu tC q2.2.2.2.2.1 ++ w_Ff_ (ad_bc 103) ad_ff tC q2.2.2.2.2.2.1)))) ++ ((w_Pl_ (ad_bc 101) ad_pl tC pl10 ++ w_Lw_ (ad_bc 102) ad_lw tC q2.2.2.2.2.2.2.2) ++ (TL))) hP (by simp only [List.append_assoc, List.nil_append])
          have hDx := cv_D (ws' := (w_Bc_ h_bc ad_bc tC rf q2.2.1 ++ (w_Sg_ (ad_bc 100) ad_sg tC q2.2.2.1 ++ (w_Tr_ (ad_bc 104) ad_tr tC q2.2.2.2.1 ++ (w_Tr_ (ad_bc 105) ad_tu tC q2.2.2.2.2.1 ++ w_Ff_ (ad_bc 103) ad_ff tC q2.2.2.2.2.2.1)))) ++ ((w_Pl_ (ad_bc 101) ad_pl tC pl10 ++ w_Lw_ (ad_bc 102) ad_lw tC q2.2.2.2.2.2.2.2) ++ (TL))) hD (by simp only [List.append_assoc, List.nil_append])
          have hro : ∀ q ∈ (w_Sf_ (hF ((p1 - 4).toNatClampNeg)) (adF ((p1 - 4).toNatClampNeg)) tC (FS ((p1 - 4).toNatClampNeg))), q ∈ (TL) := fun q h => (fun h9 => h9) ((show ∀ q ∈ (w_Sf_ (hF ((p1 - 4).toNatClampNeg)) (adF ((p1 - 4).toNatClampNeg)) tC (FS ((p1 - 4).toNatClampNeg))), q ∈ TL from fun q h => (hFM.2.2.2.1 ((p1 - 4).toNatClampNeg) hg7) q h) q h)
          obtain ⟨hPc, hDc, hFc⟩ := bk_cut hPx hDx hS hA hro ((hFM.2.2.2.2.2.2.2 ((p1 - 4).toNatClampNeg) hg7))
          have hPc := cv_P (ws' := (w_Pl_ (ad_bc 101) ad_pl tC pl10 ++ (w_Lw_ (ad_bc 102) ad_lw tC q2.2.2.2.2.2.2.2 ++ w_Sf_ (hF ((p1 - 4).toNatClampNeg)) (adF ((p1 - 4).toNatClampNeg)) tC (FS ((p1 - 4).toNatClampNeg))))) hPc (by simp only [List.append_assoc, List.nil_append])
          have hDc := cv_D (ws' := (w_Pl_ (ad_bc 101) ad_pl tC pl10 ++ (w_Lw_ (ad_bc 102) ad_lw tC q2.2.2.2.2.2.2.2 ++ w_Sf_ (hF ((p1 - 4).toNatClampNeg)) (adF ((p1 - 4).toNatClampNeg)) tC (FS ((p1 - 4).toNatClampNeg))))) hDc (by simp only [List.append_assoc, List.nil_append])
          have hFc := cv_F (ws' := (w_Pl_ (ad_bc 101) ad_pl tC pl10 ++ (w_Lw_ (ad_bc 102) ad_lw tC q2.2.2.2.2.2.2.2 ++ w_Sf_ (hF ((p1 - 4).toNatClampNeg)) (adF ((p1 - 4).toNatClampNeg)) tC (FS ((p1 - 4).toNatClampNeg))))) hFc (by simp only [List.append_assoc, List.nil_append])
          refine wr_go (va_runV (As := [.ref (ad_bc 101), .int v1, .int p1, .ref (hF ((p1 - 4).toNatClampNeg))]) (rest := []) ⟨hx, hb, hml, hown, hts⟩ (m_Lw_cut l dC dI tC (ad_bc 101) ad_pl pl10 (ad_bc 102) ad_lw q2.2.2.2.2.2.2.2 (hF ((p1 - 4).toNatClampNeg)) (adF ((p1 - 4).toNatClampNeg)) (FS ((p1 - 4).toNatClampNeg)) v1 p1 q11 hq11 _) (cwV 4 hts (gd_V kM_8_257 kI_Lw_cut kV_Lw_cut kZ_1 kC_Lw_cut) rfl rfl rfl (by decide +kernel) ⟨(Nat.le_of_ble_eq_true rfl), (Nat.le_of_ble_eq_true rfl)⟩) ⟨wr_blind, va_recv hK hP (ci := 1) (q0 := 29) rfl rfl, wr_pre hK hPc hDc⟩ rfl rfl hl.1 rfl (lv_room (Nat.le_of_ble_eq_true rfl)) d_Bc_cutDiameter_114 ⟨(Nat.le_of_ble_eq_true rfl), (Nat.le_of_ble_eq_true rfl)⟩) hS hFc (fun r w1 H1 locs hw hP1 hD1 hk1 hS => ?_)
          obtain ⟨rfl, rfl⟩ := hw
          have hP1 := cv_P (ws' := (w_Pl_ (ad_bc 101) ad_pl tC q11.2.1 ++ w_Lw_ (ad_bc 102) ad_lw tC q11.2.2) ++ (w_Sf_ (hF ((p1 - 4).toNatClampNeg)) (adF ((p1 - 4).toNatClampNeg)) tC (FS ((p1 - 4).toNatClampNeg)))) hP1 (by simp only [List.append_assoc, List.nil_append])
          have hk1 := cv_k (ws' := (w_Pl_ (ad_bc 101) ad_pl tC pl10 ++ w_Lw_ (ad_bc 102) ad_lw tC q2.2.2.2.2.2.2.2) ++ (w_Sf_ (hF ((p1 - 4).toNatClampNeg)) (adF ((p1 - 4).toNatClampNeg)) tC (FS ((p1 - 4).toNatClampNeg)))) hk1 (by simp only [List.append_assoc, List.nil_append])
          obtain ⟨hP, hD⟩ := bk_join (B1 := (w_Pl_ (ad_bc 101) ad_pl tC q11.2.1 ++ w_Lw_ (ad_bc 102) ad_lw tC q11.2.2)) hPx hDx hro hk1 hP1 rfl
          clear hP1 hD1 hk1 hPc hDc hFc hPx hDx hro
          have hP := cv_P (ws' := (w_Bc_ h_bc ad_bc tC rf q2.2.1 ++ (w_Sg_ (ad_bc 100) ad_sg tC q2.2.2.1 ++ (w_Tr_ (ad_bc 104) ad_tr tC q2.2.2.2.1 ++ (w_Tr_ (ad_bc 105) ad_tu tC q2.2.2.2.2.1 ++ (w_Ff_ (ad_bc 103) ad_ff tC q2.2.2.2.2.2.1 ++ (w_Pl_ (ad_bc 101) ad_pl tC q11.2.1 ++ (w_Lw_ (ad_bc 102) ad_lw tC q11.2.2 ++ TL)))))))) hP (by simp only [List.append_assoc, List.nil_append])
          have hD := cv_D (ws' := (w_Bc_ h_bc ad_bc tC rf q2.2.1 ++ (w_Sg_ (ad_bc 100) ad_sg tC q2.2.2.1 ++ (w_Tr_ (ad_bc 104) ad_tr tC q2.2.2.2.1 ++ (w_Tr_ (ad_bc 105) ad_tu tC q2.2.2.2.2.1 ++ (w_Ff_ (ad_bc 103) ad_ff tC q2.2.2.2.2.2.1 ++ (w_Pl_ (ad_bc 101) ad_pl tC q11.2.1 ++ (w_Lw_ (ad_bc 102) ad_lw tC q11.2.2 ++ TL)))))))) hD (by simp only [List.append_assoc, List.nil_append])
          refine W.eq (g2 := F0 m 117 ls [.int q11.1]) rfl ?_
          obtain ⟨hn12, hf⟩ := op_if hf
          obtain rfl := Option.some.inj hf
          subst hQ
          subst hAe
          exact W.zret (v := q11.1) (ty := .boolean) hx hb hr (nb_z hn12) (fun t ht hW => ⟨⟨_, _, rfl, ⟨rfl, rfl⟩, by rw [ht]; exact hP, hD⟩, hS.F ht⟩) hS.2.2 d_Bc_cutDiameter_117
        · have hf := op_e hf c9
          refine lv_aload_n hx hb d_Bc_cutDiameter_73 rfl (lv_at hl 3 rfl) ?_
          refine va_get (D := (dC, dI)) (ci := 8) (v := .ref (ad_bc 103)) (C := RX8) (T := TX8) (N := 12) hx hb hts in_X8 hown hK hP 0 rfl rfl 7 (by decide) (hts _ kF_8_55) (fun _ h9 => h9) rfl d_Bc_cutDiameter_74 ?_
          refine lv_aload_n hx hb d_Bc_cutDiameter_77 rfl (lv_at hl 3 rfl) ?_
          refine va_get (D := (dC, dI)) (ci := 8) (v := .ref (ad_bc 101)) (C := RX8) (T := TX8) (N := 12) hx hb hts in_X8 hown hK hP 0 rfl rfl 5 (by decide) (hts _ kF_8_41) (fun _ h9 => h9) rfl d_Bc_cutDiameter_78 ?_
          refine lv_iload_n hx hb d_Bc_cutDiameter_81 rfl (lv_at hl 2 rfl) ?_
          refine lv_iload_n hx hb d_Bc_cutDiameter_82 rfl (lv_at hl 4 rfl) ?_
          refine lv_aload hx hb d_Bc_cutDiameter_83 (lv_at hl 0 rfl) ?_
          obtain ⟨q13, hq13, hf⟩ := op_b hf
          have hPx := cv_P (ws' := (w_Bc_ h_bc ad_bc tC rf q2.2.1 ++ (w_Sg_ (ad_bc 100) ad_sg tC q2.2.2.1 ++ (w_Tr_ (ad_bc 104) ad_tr tC q2.2.2.2.1 ++ w_Tr_ (ad_bc 105) ad_tu tC q2.2.2.2.2.1))) ++ ((w_Ff_ (ad_bc 103) ad_ff tC q2.2.2.2.2.2.1 ++ w_Pl_ (ad_bc 101) ad_pl tC pl8) ++ (w_Lw_ (ad_bc 102) ad_lw tC q2.2.2.2.2.2.2.2 ++ TL))) hP (by simp only [List.append_assoc, List.nil_append])
          have hDx := cv_D (ws' := (w_Bc_ h_bc ad_bc tC rf q2.2.1 ++ (w_Sg_ (ad_bc 100) ad_sg tC q2.2.2.1 ++ (w_Tr_ (ad_bc 104) ad_tr tC q2.2.2.2.1 ++ w_Tr_ (ad_bc 105) ad_tu tC q2.2.2.2.2.1))) ++ ((w_Ff_ (ad_bc 103) ad_ff tC q2.2.2.2.2.2.1 ++ w_Pl_ (ad_bc 101) ad_pl tC pl8) ++ (w_Lw_ (ad_bc 102) ad_lw tC q2.2.2.2.2.2.2.2 ++ TL))) hD (by simp only [List.append_assoc, List.nil_append])
          have hro : ∀ q ∈ (w_Sf_ (hF ((p1 - 4).toNatClampNeg)) (adF ((p1 - 4).toNatClampNeg)) tC (FS ((p1 - 4).toNatClampNeg))), q ∈ (w_Lw_ (ad_bc 102) ad_lw tC q2.2.2.2.2.2.2.2 ++ TL) := fun q h => (fun h9 => (List.mem_append_right _ h9)) ((show ∀ q ∈ (w_Sf_ (hF ((p1 - 4).toNatClampNeg)) (adF ((p1 - 4).toNatClampNeg)) tC (FS ((p1 - 4).toNatClampNeg))), q ∈ TL from fun q h => (hFM.2.2.2.1 ((p1 - 4).toNatClampNeg) hg7) q h) q h)
          obtain ⟨hPc, hDc, hFc⟩ := bk_cut hPx hDx hS hA hro ((hFM.2.2.2.2.2.2.2 ((p1 - 4).toNatClampNeg) hg7))
          have hPc := cv_P (ws' := (w_Ff_ (ad_bc 103) ad_ff tC q2.2.2.2.2.2.1 ++ (w_Pl_ (ad_bc 101) ad_pl tC pl8 ++ w_Sf_ (hF ((p1 - 4).toNatClampNeg)) (adF ((p1 - 4).toNatClampNeg)) tC (FS ((p1 - 4).toNatClampNeg))))) hPc (by simp only [List.append_assoc, List.nil_append])
          have hDc := cv_D (ws' := (w_Ff_ (ad_bc 103) ad_ff tC q2.2.2.2.2.2.1 ++ (w_Pl_ (ad_bc 101) ad_pl tC pl8 ++ w_Sf_ (hF ((p1 - 4).toNatClampNeg)) (adF ((p1 - 4).toNatClampNeg)) tC (FS ((p1 - 4).toNatClampNeg))))) hDc (by simp only [List.append_assoc, List.nil_append])
          have hFc := cv_F (ws' := (w_Ff_ (ad_bc 103) ad_ff tC q2.2.2.2.2.2.1 ++ (w_Pl_ (ad_bc 101) ad_pl tC pl8 ++ w_Sf_ (hF ((p1 - 4).toNatClampNeg)) (adF ((p1 - 4).toNatClampNeg)) tC (FS ((p1 - 4).toNatClampNeg))))) hFc (by simp only [List.append_assoc, List.nil_append])
          refine wr_go (va_runV (As := [.ref (ad_bc 101), .int v1, .int p1, .ref (hF ((p1 - 4).toNatClampNeg))]) (rest := []) ⟨hx, hb, hml, hown, hts⟩ (m_Ff_cut l dC dI tC (ad_bc 103) ad_ff q2.2.2.2.2.2.1 (ad_bc 101) ad_pl pl8 (hF ((p1 - 4).toNatClampNeg)) (adF ((p1 - 4).toNatClampNeg)) (FS ((p1 - 4).toNatClampNeg)) v1 p1 q13 hq13 _) (cwV 4 hts (gd_V kM_8_253 kI_Ff_cut kV_Ff_cut kZ_0 kC_Ff_cut) rfl rfl rfl (by decide +kernel) ⟨(Nat.le_of_ble_eq_true rfl), (Nat.le_of_ble_eq_true rfl)⟩) ⟨wr_blind, va_recv hK hP (ci := 0) (q0 := 19) rfl rfl, wr_pre hK hPc hDc⟩ rfl rfl hl.1 rfl (lv_room (Nat.le_of_ble_eq_true rfl)) d_Bc_cutDiameter_85 ⟨(Nat.le_of_ble_eq_true rfl), (Nat.le_of_ble_eq_true rfl)⟩) hS hFc (fun r w1 H1 locs hw hP1 hD1 hk1 hS => ?_)
          obtain ⟨rfl, rfl⟩ := hw
          have hP1 := cv_P (ws' := (w_Ff_ (ad_bc 103) ad_ff tC q13.2.1 ++ w_Pl_ (ad_bc 101) ad_pl tC q13.2.2) ++ (w_Sf_ (hF ((p1 - 4).toNatClampNeg)) (adF ((p1 - 4).toNatClampNeg)) tC (FS ((p1 - 4).toNatClampNeg)))) hP1 (by simp only [List.append_assoc, List.nil_append])
          have hk1 := cv_k (ws' := (w_Ff_ (ad_bc 103) ad_ff tC q2.2.2.2.2.2.1 ++ w_Pl_ (ad_bc 101) ad_pl tC pl8) ++ (w_Sf_ (hF ((p1 - 4).toNatClampNeg)) (adF ((p1 - 4).toNatClampNeg)) tC (FS ((p1 - 4).toNatClampNeg)))) hk1 (by simp only [List.append_assoc, List.nil_append])
          obtain ⟨hP, hD⟩ := bk_join (B1 := (w_Ff_ (ad_bc 103) ad_ff tC q13.2.1 ++ w_Pl_ (ad_bc 101) ad_pl tC q13.2.2)) hPx hDx hro hk1 hP1 rfl
          clear hP1 hD1 hk1 hPc hDc hFc hPx hDx hro
          have hP := cv_P (ws' := (w_Bc_ h_bc ad_bc tC rf q2.2.1 ++ (w_Sg_ (ad_bc 100) ad_sg tC q2.2.2.1 ++ (w_Tr_ (ad_bc 104) ad_tr tC q2.2.2.2.1 ++ (w_Tr_ (ad_bc 105) ad_tu tC q2.2.2.2.2.1 ++ (w_Ff_ (ad_bc 103) ad_ff tC q13.2.1 ++ (w_Pl_ (ad_bc 101) ad_pl tC q13.2.2 ++ (w_Lw_ (ad_bc 102) ad_lw tC q2.2.2.2.2.2.2.2 ++ TL)))))))) hP (by simp only [List.append_assoc, List.nil_append])
          have hD := cv_D (ws' := (w_Bc_ h_bc ad_bc tC rf q2.2.1 ++ (w_Sg_ (ad_bc 100) ad_sg tC q2.2.2.1 ++ (w_Tr_ (ad_bc 104) ad_tr tC q2.2.2.2.1 ++ (w_Tr_ (ad_bc 105) ad_tu tC q2.2.2.2.2.1 ++ (w_Ff_ (ad_bc 103) ad_ff tC q13.2.1 ++ (w_Pl_ (ad_bc 101) ad_pl tC q13.2.2 ++ (w_Lw_ (ad_bc 102) ad_lw tC q2.2.2.2.2.2.2.2 ++ TL)))))))) hD (by simp only [List.append_assoc, List.nil_append])
          refine W.eq (g2 := F0 m 88 ls [.int q13.1]) rfl ?_
          obtain ⟨hn14, hf⟩ := op_if hf
          obtain rfl := Option.some.inj hf
          subst hQ
          subst hAe
          exact W.zret (v := q13.1) (ty := .boolean) hx hb hr (nb_z hn14) (fun t ht hW => ⟨⟨_, _, rfl, ⟨rfl, rfl⟩, by rw [ht]; exact hP, hD⟩, hS.F ht⟩) hS.2.2 d_Bc_cutDiameter_88
      · have hf := op_e hf hg7
        refine rw_n (hFM.2.2.2.2.2.1 _ (Bool.eq_false_iff.mpr hg7)) ?_
        refine lv_astoreN (lv' := [(5, .null), (4, .int v4), (3, .int v1), (0, .ref h_bc), (1, .int p1), (2, .int p2)]) hx hb d_Bc_cutDiameter_45 hl (by decide) rfl (fun ls hl => ?_)
        refine lv_aloadN hx hb d_Bc_cutDiameter_47 (lv_at hl 0 rfl) ?_
        refine lv_ifnonnullN hx hb d_Bc_cutDiameter_49 ?_
        refine lv_iconst (v := 0) hx hb d_Bc_cutDiameter_52 (by decide) ?_
        obtain rfl := Option.some.inj hf
        subst hQ
        subst hAe
        exact W.zret (v := 0) (ty := .boolean) hx hb hr (by decide) (fun t ht hW => ⟨⟨_, _, rfl, ⟨rfl, rfl⟩, by rw [ht]; exact hP, hD⟩, hS.F ht⟩) hS.2.2 d_Bc_cutDiameter_53
    · have hf := op_t hf c5
      refine lv_iconst (v := 1) hx hb d_Bc_cutDiameter_35 (by decide) ?_
      obtain rfl := Option.some.inj hf
      subst hQ
      subst hAe
      exact W.zret (v := 1) (ty := .boolean) hx hb hr (by decide) (fun t ht hW => ⟨⟨_, _, rfl, ⟨rfl, rfl⟩, by rw [ht]; exact hP, hD⟩, hS.F ht⟩) hS.2.2 d_Bc_cutDiameter_36
  · have hf := op_t hf c3
    refine lv_iconst (v := 0) hx hb d_Bc_cutDiameter_17 (by decide) ?_
    obtain rfl := Option.some.inj hf
    subst hQ
    subst hAe
    exact W.zret (v := 0) (ty := .boolean) hx hb hr (by decide) (fun t ht hW => ⟨⟨_, _, rfl, ⟨rfl, rfl⟩, by rw [ht]; exact hP, hD⟩, hS.F ht⟩) hS.2.2 d_Bc_cutDiameter_18
def l_Bc_run_25 : Nat → Int64 → Int32 → Nat → (Nat → Nat) → (Nat → MS) → (Nat → MS) → (Nat → Bool) → (Nat → MS) → MS → MS → MS → MS → MS → MS → MS → Option (Int32 × MS × MS × MS × MS × MS × MS × MS)
  | 0, _, _, _, _, _, _, _, _, _, _, _, _, _, _, _ => none
  | n + 1, x1, x3, nl, nT, LS, TS, FP, FS, bc, sg, tr, tu, ff, pl, lw => (if 40 < x3 then (some (sI pl 4 1)).bind fun pl5 => some (pl5.1 1, bc, sg, tr, tu, ff, pl5, lw) else (f_Bc_cutDiameter nl nT LS TS FP FS bc sg tr tu ff pl lw x3 x1.toInt32).bind fun q6 => (if q6.1 = 0 then (f_Pl_clear q6.2.2.2.2.2.2.1).bind fun q8 => some ((-1), q6.2.1, q6.2.2.1, q6.2.2.2.1, q6.2.2.2.2.1, q6.2.2.2.2.2.1, q8.2, q6.2.2.2.2.2.2.2) else l_Bc_run_25 n x1 (x3 + 1) nl nT LS TS FP FS q6.2.1 q6.2.2.1 q6.2.2.2.1 q6.2.2.2.2.1 q6.2.2.2.2.2.1 q6.2.2.2.2.2.2.1 q6.2.2.2.2.2.2.2))
def f_Bc_run (nl : Nat) (nT : Nat → Nat) (LS : Nat → MS) (TS : Nat → MS) (FP : Nat → Bool) (FS : Nat → MS) (bc : MS) (sg : MS) (tr : MS) (tu : MS) (ff : MS) (pl : MS) (lw : MS) (p1 : Int64) : Option (Int32 × MS × MS × MS × MS × MS × MS × MS) := (if p1 < 0 then some ((-1), bc, sg, tr, tu, ff, pl, lw) else (if p1 ≤ 8 then (f_Pl_clear pl).bind fun q3 => l_Bc_run_25 fu p1 4 nl nT LS TS FP FS bc sg tr tu ff q3.2 lw else some ((-1), bc, sg, tr, tu, ff, pl, lw)))
def rm_Bc_run : Room := { frames := 133, cells := 0, slots := 0, locals := 7874 }
set_option maxHeartbeats 4000000 in
set_option maxRecDepth 100000 in
theorem m_Bc_run (l : Launch) (dC : Nat → ClassId) (dI : Nat → Nat → Nat) (tC : Nat → ClassId) (TL : va_W) (nl : Nat) (hL : Nat → Nat) (adL aT : Nat → Nat → Nat) (nT : Nat → Nat) (LS TS : Nat → MS) (FP : Nat → Bool) (hF : Nat → Nat) (adF : Nat → Nat → Nat) (FS : Nat → MS) (rf : Nat → Nat → Option Nat) (h_bc : Nat) (ad_bc : Nat → Nat) (bc : MS) (ad_sg : Nat → Nat) (sg : MS) (ad_tr : Nat → Nat) (tr : MS) (ad_tu : Nat → Nat) (tu : MS) (ad_ff : Nat → Nat) (ff : MS) (ad_pl : Nat → Nat) (pl : MS) (ad_lw : Nat → Nat) (lw : MS) (p1 : Int64) (R : Int32 × MS × MS × MS × MS × MS × MS × MS) (hFM : FM tC TL nl hL adL aT nT LS TS FP hF adF FS rf) (hf : f_Bc_run nl nT LS TS FP FS bc sg tr tu ff pl lw p1 = some R) (sz : Nat) : Met l y_Bc_run w_Bc_run rm_Bc_run (wrP (dC, dI) tC (w_Bc_ h_bc ad_bc tC rf bc ++ (w_Sg_ (ad_bc 100) ad_sg tC sg ++ (w_Tr_ (ad_bc 104) ad_tr tC tr ++ (w_Tr_ (ad_bc 105) ad_tu tC tu ++ (w_Ff_ (ad_bc 103) ad_ff tC ff ++ (w_Pl_ (ad_bc 101) ad_pl tC pl ++ (w_Lw_ (ad_bc 102) ad_lw tC lw ++ TL))))))) sz [.ref h_bc, .long p1]) (wrQ (dC, dI) (w_Bc_ h_bc ad_bc tC rf bc ++ (w_Sg_ (ad_bc 100) ad_sg tC sg ++ (w_Tr_ (ad_bc 104) ad_tr tC tr ++ (w_Tr_ (ad_bc 105) ad_tu tC tu ++ (w_Ff_ (ad_bc 103) ad_ff tC ff ++ (w_Pl_ (ad_bc 101) ad_pl tC pl ++ (w_Lw_ (ad_bc 102) ad_lw tC lw ++ TL))))))) sz (fun r w => r = (some (.int R.1)) ∧ w = (w_Bc_ h_bc ad_bc tC rf R.2.1 ++ (w_Sg_ (ad_bc 100) ad_sg tC R.2.2.1 ++ (w_Tr_ (ad_bc 104) ad_tr tC R.2.2.2.1 ++ (w_Tr_ (ad_bc 105) ad_tu tC R.2.2.2.2.1 ++ (w_Ff_ (ad_bc 103) ad_ff tC R.2.2.2.2.2.1 ++ (w_Pl_ (ad_bc 101) ad_pl tC R.2.2.2.2.2.2.1 ++ (w_Lw_ (ad_bc 102) ad_lw tC R.2.2.2.2.2.2.2 ++ TL))))))))) 0 0 (va_A (w_Bc_ h_bc ad_bc tC rf bc ++ (w_Sg_ (ad_bc 100) ad_sg tC sg ++ (w_Tr_ (ad_bc 104) ad_tr tC tr ++ (w_Tr_ (ad_bc 105) ad_tu tC tu ++ (w_Ff_ (ad_bc 103) ad_ff tC ff ++ (w_Pl_ (ad_bc 101) ad_pl tC pl ++ (w_Lw_ (ad_bc 102) ad_lw tC lw ++ TL))))))) sz) := by
  refine Met.ofW (cc := c_Bc_run) (maxL := 4) (ret := (some (.int))) (by decide) rfl ?_
  intro p e s m args below meth c s₁ B hml hv
  obtain ⟨hav, hsz, hP, hK, hD0⟩ := hv
  have hx := B.exec
  have hb := B.bytes
  have hr := B.returns
  have hts : ∀ w ∈ gw, w.before args s = true := fun w h => atoms_spec (ws := w_Bc_run) B.pre w (List.mem_cons_of_mem _ h)
  have hown : s.vm.findClass RX8 = some m.cls := findClass_of_methodNamed B.named
  have hlocks := B.notSynchronized
  subst hsz
  have hD := hD0.self (sz := s.heap.size)
  obtain ⟨A, hAe⟩ : ∃ z, z = va_A (w_Bc_ h_bc ad_bc tC rf bc ++ (w_Sg_ (ad_bc 100) ad_sg tC sg ++ (w_Tr_ (ad_bc 104) ad_tr tC tr ++ (w_Tr_ (ad_bc 105) ad_tu tC tu ++ (w_Ff_ (ad_bc 103) ad_ff tC ff ++ (w_Pl_ (ad_bc 101) ad_pl tC pl ++ (w_Lw_ (ad_bc 102) ad_lw tC lw ++ TL))))))) s.heap.size := ⟨_, rfl⟩
  rw [← hAe] at hD
  have hA : ∀ q : Nat, s.heap.size ≤ q → A q := fun q h => by rw [hAe]; exact Or.inr h
  have hS : va_S A s.heap s.heap [] := va_S.rf
  refine q_w (R := rm_Bc_run) (fun Q hQ => ?_)
  refine en_w (av := [.ref h_bc, .long p1]) hav (Nat.le_of_ble_eq_true rfl) (fun ls hl => ?_)
  have hl : lv_has ls 4 [(0, .ref h_bc), (1, .long p1)] := hl
  unfold f_Bc_run at hf
  refine lv_lload_n hx hb d_Bc_run_0 rfl (lv_at hl 1 rfl) ?_
  refine lv_lconst (v := 0) hx hb d_Bc_run_1 (by decide) ?_
  refine W.lcmp hx hb d_Bc_run_2 ?_
  refine lv_if_lt (tgt := 14) hx hb d_Bc_run_3 (by decide) (fun c1 => ?_) (fun c1 => ?_)
  · have c1 := (lg_cmp_lt _ _).mp c1
    have hf := op_t hf c1
    refine lv_iconst (v := (-1)) hx hb d_Bc_run_14 (by decide) ?_
    obtain rfl := Option.some.inj hf
    subst hQ
    subst hAe
    exact W.iret (v := (-1)) hx hb hr (fun t ht hW => ⟨⟨_, _, rfl, ⟨rfl, rfl⟩, by rw [ht]; exact hP, hD⟩, hS.F ht⟩) hS.2.2 d_Bc_run_15
  · have c1 := fun h9 => c1 ((lg_cmp_lt _ _).mpr h9)
    have hf := op_e hf c1
    refine lv_lload_n hx hb d_Bc_run_6 rfl (lv_at hl 1 rfl) ?_
    refine lv_ldc2 (v := 8) hx hb hown (hts _ kK_8_142) d_Bc_run_7 ?_
    refine W.lcmp hx hb d_Bc_run_10 ?_
    refine lv_if_le (tgt := 16) hx hb d_Bc_run_11 (by decide) (fun c2 => ?_) (fun c2 => ?_)
    · have c2 := (lg_cmp_le _ _).mp c2
      have hf := op_t hf c2
      refine lv_aload_n hx hb d_Bc_run_16 rfl (lv_at hl 0 rfl) ?_
      refine va_get (D := (dC, dI)) (ci := 8) (v := .ref (ad_bc 101)) (C := RX8) (T := TX8) (N := 12) hx hb hts in_X8 hown hK hP 0 rfl rfl 5 (by decide) (hts _ kF_8_41) (fun _ h9 => h9) rfl d_Bc_run_17 ?_
      obtain ⟨q3, hq3, hf⟩ := op_b hf
      have hPx := cv_P (ws' := (w_Bc_ h_bc ad_bc tC rf bc ++ (w_Sg_ (ad_bc 100) ad_sg tC sg ++ (w_Tr_ (ad_bc 104) ad_tr tC tr ++ (w_Tr_ (ad_bc 105) ad_tu tC tu ++ w_Ff_ (ad_bc 103) ad_ff tC ff)))) ++ ((w_Pl_ (ad_bc 101) ad_pl tC pl) ++ (w_Lw_ (ad_bc 102) ad_lw tC lw ++ TL))) hP (by simp only [List.append_assoc, List.nil_append])
      have hDx := cv_D (ws' := (w_Bc_ h_bc ad_bc tC rf bc ++ (w_Sg_ (ad_bc 100) ad_sg tC sg ++ (w_Tr_ (ad_bc 104) ad_tr tC tr ++ (w_Tr_ (ad_bc 105) ad_tu tC tu ++ w_Ff_ (ad_bc 103) ad_ff tC ff)))) ++ ((w_Pl_ (ad_bc 101) ad_pl tC pl) ++ (w_Lw_ (ad_bc 102) ad_lw tC lw ++ TL))) hD (by simp only [List.append_assoc, List.nil_append])
      obtain ⟨hPc, hDc, hFc⟩ := bk_cut0 hPx hDx hS hA
      refine wr_go (va_runV (As := []) (rest := []) ⟨hx, hb, hml, hown, hts⟩ (m_Pl_clear l dC dI tC (ad_bc 101) ad_pl pl q3 hq3 _) (cwV 0 hts (gd_V kM_8_96 kI_Pl_clear kV_Pl_clear kZ_3 kC_Pl_clear) rfl rfl rfl (by decide +kernel) ⟨(Nat.le_of_ble_eq_true rfl), (Nat.le_of_ble_eq_true rfl)⟩) ⟨wr_blind, va_recv hK hP (ci := 3) (q0 := 21) rfl rfl, wr_pre hK hPc hDc⟩ rfl rfl hl.1 rfl (lv_room (Nat.le_of_ble_eq_true rfl)) d_Bc_run_20 ⟨(Nat.le_of_ble_eq_true rfl), (Nat.le_of_ble_eq_true rfl)⟩) hS hFc (fun r w1 H1 locs hw hP1 hD1 hk1 hS => ?_)
      obtain ⟨rfl, rfl⟩ := hw
      obtain ⟨hP, hD⟩ := bk_join0 (B1 := (w_Pl_ (ad_bc 101) ad_pl tC q3.2)) hPx hDx hk1 hP1 rfl
      clear hP1 hD1 hk1 hPc hDc hFc hPx hDx
      have hP := cv_P (ws' := (w_Bc_ h_bc ad_bc tC rf bc ++ (w_Sg_ (ad_bc 100) ad_sg tC sg ++ (w_Tr_ (ad_bc 104) ad_tr tC tr ++ (w_Tr_ (ad_bc 105) ad_tu tC tu ++ (w_Ff_ (ad_bc 103) ad_ff tC ff ++ (w_Pl_ (ad_bc 101) ad_pl tC q3.2 ++ (w_Lw_ (ad_bc 102) ad_lw tC lw ++ TL)))))))) hP (by simp only [List.append_assoc, List.nil_append])
      have hD := cv_D (ws' := (w_Bc_ h_bc ad_bc tC rf bc ++ (w_Sg_ (ad_bc 100) ad_sg tC sg ++ (w_Tr_ (ad_bc 104) ad_tr tC tr ++ (w_Tr_ (ad_bc 105) ad_tu tC tu ++ (w_Ff_ (ad_bc 103) ad_ff tC ff ++ (w_Pl_ (ad_bc 101) ad_pl tC q3.2 ++ (w_Lw_ (ad_bc 102) ad_lw tC lw ++ TL)))))))) hD (by simp only [List.append_assoc, List.nil_append])
      refine W.eq (g2 := F0 m 23 ls []) rfl ?_
      refine lv_iconst (v := 4) hx hb d_Bc_run_23 (by decide) ?_
      refine lv_istore_n (lv' := [(3, .int 4), (0, .ref h_bc), (1, .long p1)]) hx hb d_Bc_run_24 rfl hl (by decide) rfl (fun ls hl => ?_)
      have lp_25 : ∀ (n : Nat) (x1 : Int64) (x3 : Int32) (bc : MS) (sg : MS) (tr : MS) (tu : MS) (ff : MS) (pl : MS) (lw : MS), l_Bc_run_25 n x1 x3 nl nT LS TS FP FS bc sg tr tu ff pl lw = some R → ∀ (H : Heap) (locs : List Loc), va_P (dC, dI) vwCl (w_Bc_ h_bc ad_bc tC rf bc ++ (w_Sg_ (ad_bc 100) ad_sg tC sg ++ (w_Tr_ (ad_bc 104) ad_tr tC tr ++ (w_Tr_ (ad_bc 105) ad_tu tC tu ++ (w_Ff_ (ad_bc 103) ad_ff tC ff ++ (w_Pl_ (ad_bc 101) ad_pl tC pl ++ (w_Lw_ (ad_bc 102) ad_lw tC lw ++ TL))))))) H → va_D A (w_Bc_ h_bc ad_bc tC rf bc ++ (w_Sg_ (ad_bc 100) ad_sg tC sg ++ (w_Tr_ (ad_bc 104) ad_tr tC tr ++ (w_Tr_ (ad_bc 105) ad_tu tC tu ++ (w_Ff_ (ad_bc 103) ad_ff tC ff ++ (w_Pl_ (ad_bc 101) ad_pl tC pl ++ (w_Lw_ (ad_bc 102) ad_lw tC lw ++ TL))))))) → va_S A s.heap H locs → ∀ ls : Array Slot, lv_has ls 4 [(3, .int x3), (0, .ref h_bc), (1, .long x1)] → W p l e rm_Bc_run s m args below meth c H locs 0 0 Q (F0 m 25 ls []) := by
        intro n
        induction n with
        | zero => intro x1 x3 bc sg tr tu ff pl lw hf; cases hf
        | succ n ih_25 =>
          intro x1 x3 bc sg tr tu ff pl lw hf H locs hP hD hS ls hl
          rw [l_Bc_run_25] at hf
          refine lv_iload_n hx hb d_Bc_run_25 rfl (lv_at hl 0 rfl) ?_
          refine lv_bipush (v := 40) hx hb d_Bc_run_26 (by decide) ?_
          refine lv_icmp_gt (tgt := 56) hx hb d_Bc_run_28 (by decide) (fun c4 => ?_) (fun c4 => ?_)
          · have hf := op_t hf c4
            refine lv_aload_n hx hb d_Bc_run_56 rfl (lv_at hl 1 rfl) ?_
            refine va_get (D := (dC, dI)) (ci := 8) (v := .ref (ad_bc 101)) (C := RX8) (T := TX8) (N := 12) hx hb hts in_X8 hown hK hP 0 rfl rfl 5 (by decide) (hts _ kF_8_41) (fun _ h9 => h9) rfl d_Bc_run_57 ?_
            refine lv_iconst (v := 1) hx hb d_Bc_run_60 (by decide) ?_
            refine va_put (D := (dC, dI)) (ci := 3) (v := .int 1) (ty := .boolean) (C := RX3) (T := TX3) (N := 12) hx hb hts in_X3 tyX3 tyX3_ok nmX3 hown hK hP hD hS 21 (fs := [.ref (ad_pl 0), .ref (ad_pl 1), .ref (ad_pl 2), .ref (ad_pl 3), .ref (ad_pl 4), .ref (ad_pl 5), .ref (ad_pl 6), .int (pl.1 0), .int (pl.1 1), .int (pl.1 2), .int (pl.1 3), .int (pl.1 4)]) rfl rfl 11 (by decide) (hts _ kF_8_147) (fun _ h9 => h9) rfl (by decide +kernel) (by decide) (by decide) (Nat.le_of_ble_eq_true rfl) d_Bc_run_61 (fun H locs hP hD hS => ?_)
            rw [sr_Bc, sr_Sg, sr_Tr, sr_Tr, sr_Ff, sl_Pl_0, wu_Pl_s4] at hP hD
            obtain ⟨pl5, hpl5, hf⟩ := op_b hf
            have hP : va_P (dC, dI) vwCl (w_Bc_ h_bc ad_bc tC rf bc ++ (w_Sg_ (ad_bc 100) ad_sg tC sg ++ (w_Tr_ (ad_bc 104) ad_tr tC tr ++ (w_Tr_ (ad_bc 105) ad_tu tC tu ++ (w_Ff_ (ad_bc 103) ad_ff tC ff ++ (w_Pl_ (ad_bc 101) ad_pl tC pl5 ++ (w_Lw_ (ad_bc 102) ad_lw tC lw ++ TL))))))) H := by rw [← Option.some.inj hpl5]; exact hP
            have hD : va_D A (w_Bc_ h_bc ad_bc tC rf bc ++ (w_Sg_ (ad_bc 100) ad_sg tC sg ++ (w_Tr_ (ad_bc 104) ad_tr tC tr ++ (w_Tr_ (ad_bc 105) ad_tu tC tu ++ (w_Ff_ (ad_bc 103) ad_ff tC ff ++ (w_Pl_ (ad_bc 101) ad_pl tC pl5 ++ (w_Lw_ (ad_bc 102) ad_lw tC lw ++ TL))))))) := by rw [← Option.some.inj hpl5]; exact hD
            refine lv_aload_n hx hb d_Bc_run_64 rfl (lv_at hl 1 rfl) ?_
            refine va_get (D := (dC, dI)) (ci := 8) (v := .ref (ad_bc 101)) (C := RX8) (T := TX8) (N := 12) hx hb hts in_X8 hown hK hP 0 rfl rfl 5 (by decide) (hts _ kF_8_41) (fun _ h9 => h9) rfl d_Bc_run_65 ?_
            refine va_get (D := (dC, dI)) (ci := 3) (v := .int (pl5.1 1)) (C := RX3) (T := TX3) (N := 12) hx hb hts in_X3 hown hK hP 21 rfl rfl 8 (by decide) (hts _ kF_8_151) (fun _ h9 => h9) rfl d_Bc_run_68 ?_
            obtain rfl := Option.some.inj hf
            subst hQ
            subst hAe
            exact W.iret (v := pl5.1 1) hx hb hr (fun t ht hW => ⟨⟨_, _, rfl, ⟨rfl, rfl⟩, by rw [ht]; exact hP, hD⟩, hS.F ht⟩) hS.2.2 d_Bc_run_71
          · have hf := op_e hf c4
            refine lv_aload_n hx hb d_Bc_run_31 rfl (lv_at hl 1 rfl) ?_
            refine lv_iload_n hx hb d_Bc_run_32 rfl (lv_at hl 0 rfl) ?_
            refine lv_lload_n hx hb d_Bc_run_33 rfl (lv_at hl 2 rfl) ?_
            refine lv_l2i (v := x1.toInt32) hx hb d_Bc_run_34 rfl ?_
            obtain ⟨q6, hq6, hf⟩ := op_b hf
            have hFc : ∀ q, va_A (w_Bc_ h_bc ad_bc tC rf bc ++ (w_Sg_ (ad_bc 100) ad_sg tC sg ++ (w_Tr_ (ad_bc 104) ad_tr tC tr ++ (w_Tr_ (ad_bc 105) ad_tu tC tu ++ (w_Ff_ (ad_bc 103) ad_ff tC ff ++ (w_Pl_ (ad_bc 101) ad_pl tC pl ++ (w_Lw_ (ad_bc 102) ad_lw tC lw ++ TL))))))) _ q → A q := va_freeAll hD hS hA
            refine wr_go (va_runV (As := [.int x3, .int x1.toInt32]) (rest := []) ⟨hx, hb, hml, hown, hts⟩ (m_Bc_cutDiameter l dC dI tC TL nl hL adL aT nT LS TS FP hF adF FS rf h_bc ad_bc bc ad_sg sg ad_tr tr ad_tu tu ad_ff ff ad_pl pl ad_lw lw x3 x1.toInt32  q6 hFM hq6 _) (cwV 2 hts (gd_V kM_8_144 kI_Bc_cutDiameter kV_Bc_cutDiameter kZ_8 kC_Bc_cutDiameter) rfl rfl rfl (by decide +kernel) ⟨(Nat.le_of_ble_eq_true rfl), (Nat.le_of_ble_eq_true rfl)⟩) ⟨wr_blind, va_recv hK hP (ci := 8) (q0 := 0) rfl rfl, wr_pre hK hP hD⟩ rfl rfl hl.1 rfl (lv_room (Nat.le_of_ble_eq_true rfl)) d_Bc_run_35 ⟨(Nat.le_of_ble_eq_true rfl), (Nat.le_of_ble_eq_true rfl)⟩) hS hFc (fun r w1 H1 locs hw hP1 hD1 hk1 hS => ?_)
            obtain ⟨rfl, rfl⟩ := hw
            have hP := hP1
            have hD := hD1.weaken (fun _ q _ h => hFc q.1 h)
            clear hP1 hD1 hk1 hFc
            refine W.eq (g2 := F0 m 38 ls [.int q6.1]) rfl ?_
            refine lv_if_ne (tgt := 50) hx hb d_Bc_run_38 (by decide) (fun c7 => ?_) (fun c7 => ?_)
            · have hf := op_e hf c7
              refine lv_iinc (v := x3 + 1) (lv' := [(3, .int (x3 + 1)), (0, .ref h_bc), (1, .long x1)]) hx hb d_Bc_run_50 hl (k := 0) rfl rfl (by decide) rfl (fun ls hl => ?_)
              refine lv_goto (tgt := 25) hx hb d_Bc_run_53 (by decide) ?_
              exact ih_25 x1 (x3 + 1) q6.2.1 q6.2.2.1 q6.2.2.2.1 q6.2.2.2.2.1 q6.2.2.2.2.2.1 q6.2.2.2.2.2.2.1 q6.2.2.2.2.2.2.2 hf _ _ hP hD hS _ (lv_sub hl [0, 1, 2] rfl)
            · have hf := op_t hf c7
              refine lv_aload_n hx hb d_Bc_run_41 rfl (lv_at hl 1 rfl) ?_
              refine va_get (D := (dC, dI)) (ci := 8) (v := .ref (ad_bc 101)) (C := RX8) (T := TX8) (N := 12) hx hb hts in_X8 hown hK hP 0 rfl rfl 5 (by decide) (hts _ kF_8_41) (fun _ h9 => h9) rfl d_Bc_run_42 ?_
              obtain ⟨q8, hq8, hf⟩ := op_b hf
              have hPx := cv_P (ws' := (w_Bc_ h_bc ad_bc tC rf q6.2.1 ++ (w_Sg_ (ad_bc 100) ad_sg tC q6.2.2.1 ++ (w_Tr_ (ad_bc 104) ad_tr tC q6.2.2.2.1 ++ (w_Tr_ (ad_bc 105) ad_tu tC q6.2.2.2.2.1 ++ w_Ff_ (ad_bc 103) ad_ff tC q6.2.2.2.2.2.1)))) ++ ((w_Pl_ (ad_bc 101) ad_pl tC q6.2.2.2.2.2.2.1) ++ (w_Lw_ (ad_bc 102) ad_lw tC q6.2.2.2.2.2.2.2 ++ TL))) hP (by simp only [List.append_assoc, List.nil_append])
              have hDx := cv_D (ws' := (w_Bc_ h_bc ad_bc tC rf q6.2.1 ++ (w_Sg_ (ad_bc 100) ad_sg tC q6.2.2.1 ++ (w_Tr_ (ad_bc 104) ad_tr tC q6.2.2.2.1 ++ (w_Tr_ (ad_bc 105) ad_tu tC q6.2.2.2.2.1 ++ w_Ff_ (ad_bc 103) ad_ff tC q6.2.2.2.2.2.1)))) ++ ((w_Pl_ (ad_bc 101) ad_pl tC q6.2.2.2.2.2.2.1) ++ (w_Lw_ (ad_bc 102) ad_lw tC q6.2.2.2.2.2.2.2 ++ TL))) hD (by simp only [List.append_assoc, List.nil_append])
              obtain ⟨hPc, hDc, hFc⟩ := bk_cut0 hPx hDx hS hA
              refine wr_go (va_runV (As := []) (rest := []) ⟨hx, hb, hml, hown, hts⟩ (m_Pl_clear l dC dI tC (ad_bc 101) ad_pl q6.2.2.2.2.2.2.1 q8 hq8 _) (cwV 0 hts (gd_V kM_8_96 kI_Pl_clear kV_Pl_clear kZ_3 kC_Pl_clear) rfl rfl rfl (by decide +kernel) ⟨(Nat.le_of_ble_eq_true rfl), (Nat.le_of_ble_eq_true rfl)⟩) ⟨wr_blind, va_recv hK hP (ci := 3) (q0 := 21) rfl rfl, wr_pre hK hPc hDc⟩ rfl rfl hl.1 rfl (lv_room (Nat.le_of_ble_eq_true rfl)) d_Bc_run_45 ⟨(Nat.le_of_ble_eq_true rfl), (Nat.le_of_ble_eq_true rfl)⟩) hS hFc (fun r w1 H1 locs hw hP1 hD1 hk1 hS => ?_)
              obtain ⟨rfl, rfl⟩ := hw
              obtain ⟨hP, hD⟩ := bk_join0 (B1 := (w_Pl_ (ad_bc 101) ad_pl tC q8.2)) hPx hDx hk1 hP1 rfl
              clear hP1 hD1 hk1 hPc hDc hFc hPx hDx
              have hP := cv_P (ws' := (w_Bc_ h_bc ad_bc tC rf q6.2.1 ++ (w_Sg_ (ad_bc 100) ad_sg tC q6.2.2.1 ++ (w_Tr_ (ad_bc 104) ad_tr tC q6.2.2.2.1 ++ (w_Tr_ (ad_bc 105) ad_tu tC q6.2.2.2.2.1 ++ (w_Ff_ (ad_bc 103) ad_ff tC q6.2.2.2.2.2.1 ++ (w_Pl_ (ad_bc 101) ad_pl tC q8.2 ++ (w_Lw_ (ad_bc 102) ad_lw tC q6.2.2.2.2.2.2.2 ++ TL)))))))) hP (by simp only [List.append_assoc, List.nil_append])
              have hD := cv_D (ws' := (w_Bc_ h_bc ad_bc tC rf q6.2.1 ++ (w_Sg_ (ad_bc 100) ad_sg tC q6.2.2.1 ++ (w_Tr_ (ad_bc 104) ad_tr tC q6.2.2.2.1 ++ (w_Tr_ (ad_bc 105) ad_tu tC q6.2.2.2.2.1 ++ (w_Ff_ (ad_bc 103) ad_ff tC q6.2.2.2.2.2.1 ++ (w_Pl_ (ad_bc 101) ad_pl tC q8.2 ++ (w_Lw_ (ad_bc 102) ad_lw tC q6.2.2.2.2.2.2.2 ++ TL)))))))) hD (by simp only [List.append_assoc, List.nil_append])
              refine W.eq (g2 := F0 m 48 ls []) rfl ?_
              refine lv_iconst (v := (-1)) hx hb d_Bc_run_48 (by decide) ?_
              obtain rfl := Option.some.inj hf
              subst hQ
              subst hAe
              exact W.iret (v := (-1)) hx hb hr (fun t ht hW => ⟨⟨_, _, rfl, ⟨rfl, rfl⟩, by rw [ht]; exact hP, hD⟩, hS.F ht⟩) hS.2.2 d_Bc_run_49
      exact lp_25 fu p1 4 bc sg tr tu ff q3.2 lw hf _ _ hP hD hS _ (lv_sub hl [0, 1, 2] rfl)
    · have c2 := fun h9 => c2 ((lg_cmp_le _ _).mpr h9)
      have hf := op_e hf c2
      refine lv_iconst (v := (-1)) hx hb d_Bc_run_14 (by decide) ?_
      obtain rfl := Option.some.inj hf
      subst hQ
      subst hAe
      exact W.iret (v := (-1)) hx hb hr (fun t ht hW => ⟨⟨_, _, rfl, ⟨rfl, rfl⟩, by rw [ht]; exact hP, hD⟩, hS.F ht⟩) hS.2.2 d_Bc_run_15
