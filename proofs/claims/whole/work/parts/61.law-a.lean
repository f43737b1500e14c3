abbrev lA (s : State) : Nat → Prop := fun q => s.heap.size ≤ q
def LInv (s : State) (dC : Nat → ClassId) (dI : Nat → Nat → Nat) (tC : Nat → ClassId) (q1 q2 : Nat) (H : Heap) : Prop := ∃ (a : Ab) (ad_bc ad_sg ad_tr ad_tu ad_ff ad_pl ad_lw ad_md : Nat → Nat) (bc sg tr tu ff pl lw md : MS) (nl : Nat) (hL : Nat → Nat) (adL aT : Nat → Nat → Nat) (nT : Nat → Nat) (LS TS : Nat → MS) (FP : Nat → Bool) (hF : Nat → Nat) (adF : Nat → Nat → Nat) (FS : Nat → MS) (rf : Nat → Nat → Option Nat) (ns : Nat) (gS : Nat → Nat) (aS : Nat → Nat → Nat) (nS : Nat → Nat) (SS : Nat → MS) (sh : Nat → Nat), va_P (dC, dI) vwCl (w_Md_ q2 ad_md tC md ++ (w_Bc_ q1 ad_bc tC rf bc ++ (w_Sg_ (ad_bc 100) ad_sg tC sg ++ (w_Tr_ (ad_bc 104) ad_tr tC tr ++ (w_Tr_ (ad_bc 105) ad_tu tC tu ++ (w_Ff_ (ad_bc 103) ad_ff tC ff ++ (w_Pl_ (ad_bc 101) ad_pl tC pl ++ (w_Lw_ (ad_bc 102) ad_lw tC lw ++ (TAL tC nl hL adL LS ns gS aS nS SS FP hF adF FS))))))))) H ∧ va_D (lA s) (w_Md_ q2 ad_md tC md ++ (w_Bc_ q1 ad_bc tC rf bc ++ (w_Sg_ (ad_bc 100) ad_sg tC sg ++ (w_Tr_ (ad_bc 104) ad_tr tC tr ++ (w_Tr_ (ad_bc 105) ad_tu tC tu ++ (w_Ff_ (ad_bc 103) ad_ff tC ff ++ (w_Pl_ (ad_bc 101) ad_pl tC pl ++ (w_Lw_ (ad_bc 102) ad_lw tC lw ++ (TAL tC nl hL adL LS ns gS aS nS SS FP hF adF FS))))))))) ∧ FX nl hL adL aT nT TS FP hF adF rf ns gS aS nS SS sh ∧ Ok a ∧ RC a nl nT LS TS FP FS bc sg ∧ RM a md ∧ RSs a nS SS ∧ PL a pl md ∧ ns = a.ns
def LH (p : Program) (s : State) (m : MethodId) (c : Code) (b L : Nat) (xs : Nat → Int32) (dC : Nat → ClassId) (dI : Nat → Nat → Nat) (tC : Nat → ClassId) : Prop := p.tables.exec = Jvm.exec ∧ c.code = c_L_law ∧ c.maxLocals = 4 ∧ s.vm.findClass RL = some m.cls ∧ (∀ w ∈ gw, w.before #[Value.ref b] s = true) ∧ va_X b L xs s s.heap ∧ b < s.heap.size ∧ va_K (dC, dI) vwCl (TY tC) s ∧ NX s
theorem PL.keep {a : Ab} {pl md m2 : MS} (h : PL a pl md) (k : Keep md m2) : PL a pl m2 := h.move rfl (fun _ _ => ⟨rfl, rfl, rfl⟩) (fun k1 _ h2 => k.1 k1 h2) (fun k1 _ h2 => k.2.1 k1 h2) (fun k1 _ h2 => k.2.2 k1 h2)
set_option maxHeartbeats 4000000 in
set_option maxRecDepth 100000 in
theorem law_0 {p : Program} {l : Launch} {e : Env} {s : State} {m : MethodId} {b L : Nat} {xs : Nat → Int32} {below : List Frame} {meth : Method} {c : Code} {Q : State → Prop} {dC : Nat → ClassId} {dI : Nat → Nat → Nat} {tC : Nat → ClassId} {q1 q2 : Nat} (h0 : LH p s m c b L xs dC dI tC) {H : Heap} {locs : List Loc} (hS : va_S (lA s) s.heap H locs) (hi : LInv s dC dI tC q1 q2 H) {i : Int32} (hr : ∀ k : Nat, k < 8 → vp_in (i + Int32.ofNat k) L) {C S : Nat} (hC : C + 3 ≤ 637990) (hC2 : S + 43 ≤ 7188278) {ls : Array Slot} (hl : lv_has ls 4 [(3, .int i), (2, .ref q2), (1, .ref q1), (0, .ref b)]) (K : ∀ (H : Heap) (locs : List Loc), va_S (lA s) s.heap H locs → LInv s dC dI tC q1 q2 H → W p l e room_1 s m #[Value.ref b] below meth c H locs (C + 3) (S + 43) Q (F0 m 1006 ls [])) : W p l e room_1 s m #[Value.ref b] below meth c H locs C S Q (F0 m 128 ls []) := by
  obtain ⟨hx, hb, hml, hown, hts, hX, hbl, hK, hN⟩ := h0
  have hA : ∀ q : Nat, s.heap.size ≤ q → lA s q := fun _ h => h
  have hbA : ¬ lA s b := Nat.not_le.mpr hbl
  obtain ⟨a, ad_bc, ad_sg, ad_tr, ad_tu, ad_ff, ad_pl, ad_lw, ad_md, bc, sg, tr, tu, ff, pl, lw, md, nl, hL, adL, aT, nT, LS, TS, FP, hF, adF, FS, rf, ns, gS, aS, nS, SS, sh, hP, hD, hFX, ok, rc, rm, rs, hpl, hns⟩ := hi
  have hFM : FM tC (TAL tC nl hL adL LS ns gS aS nS SS FP hF adF FS) nl hL adL aT nT LS TS FP hF adF FS rf := hFX.fm (fun _ h => h)
  obtain ⟨v1, hv1⟩ : ∃ z : Int32, z = (xs (i + 1).toNatClampNeg) := ⟨_, rfl⟩
  obtain ⟨r, sg2, md2, a2, e1, e2, ok2, rc2, rm2, ha, hm1, hm2, hm3⟩ := x_unit (tr := tr) (tu := tu) (ff := ff) (pl := pl) (lw := lw) ok rc rm v1
  refine lv_aload_n hx hb d_L_law_128 rfl (lv_at hl 2 rfl) ?_
  refine lv_aload_n hx hb d_L_law_129 rfl (lv_at hl 3 rfl) ?_
  refine lv_iload_n hx hb d_L_law_130 rfl (lv_at hl 0 rfl) ?_
  refine lv_iconst (v := 1) hx hb d_L_law_131 (by decide) ?_
  refine lv_iadd hx hb d_L_law_132 ?_
  refine va_sld hx hb hX hbl hbA hS (i := i + 1) (hr 1 (by omega)) d_L_law_133 ?_
  refine rw_i (y := v1) hv1.symm ?_
  have hPc := va_P_in (w := (w_Bc_ q1 ad_bc tC rf bc ++ (w_Sg_ (ad_bc 100) ad_sg tC sg ++ (w_Tr_ (ad_bc 104) ad_tr tC tr ++ (w_Tr_ (ad_bc 105) ad_tu tC tu ++ (w_Ff_ (ad_bc 103) ad_ff tC ff ++ (w_Pl_ (ad_bc 101) ad_pl tC pl ++ (w_Lw_ (ad_bc 102) ad_lw tC lw ++ (TAL tC nl hL adL LS ns gS aS nS SS FP hF adF FS))))))))) hP (fun q h => List.mem_append_right _ h)
  have hDc : va_D (lA s) (w_Bc_ q1 ad_bc tC rf bc ++ (w_Sg_ (ad_bc 100) ad_sg tC sg ++ (w_Tr_ (ad_bc 104) ad_tr tC tr ++ (w_Tr_ (ad_bc 105) ad_tu tC tu ++ (w_Ff_ (ad_bc 103) ad_ff tC ff ++ (w_Pl_ (ad_bc 101) ad_pl tC pl ++ (w_Lw_ (ad_bc 102) ad_lw tC lw ++ (TAL tC nl hL adL LS ns gS aS nS SS FP hF adF FS)))))))) := D_r hD
  have hFc : ∀ q, va_A (w_Bc_ q1 ad_bc tC rf bc ++ (w_Sg_ (ad_bc 100) ad_sg tC sg ++ (w_Tr_ (ad_bc 104) ad_tr tC tr ++ (w_Tr_ (ad_bc 105) ad_tu tC tu ++ (w_Ff_ (ad_bc 103) ad_ff tC ff ++ (w_Pl_ (ad_bc 101) ad_pl tC pl ++ (w_Lw_ (ad_bc 102) ad_lw tC lw ++ (TAL tC nl hL adL LS ns gS aS nS SS FP hF adF FS)))))))) _ q → lA s q := va_freeAll hDc hS hA
  refine wr_go (va_runV (As := [.int v1]) (rest := []) ⟨hx, hb, hml, hown, hts⟩ (m_Bc_unit l dC dI tC (TAL tC nl hL adL LS ns gS aS nS SS FP hF adF FS) nl hL adL aT nT LS TS FP hF adF FS rf q1 ad_bc bc ad_sg sg ad_tr tr ad_tu tu ad_ff ff ad_pl pl ad_lw lw v1 (r, bc, sg2, tr, tu, ff, pl, lw) hFM e1 _) (cwV 1 hts (gd_V kM_L_13 kI_Bc_unit kV_Bc_unit kZ_8 kC_Bc_unit) rfl rfl rfl (by decide +kernel) ⟨(by decide +kernel), (by decide +kernel)⟩) ⟨wr_blind, va_recv hK hP (ci := 8) (q0 := 37) rfl rfl, wr_pre hK hPc hDc⟩ rfl rfl hl.1 rfl (lv_room (Nat.le_of_ble_eq_true rfl)) d_L_law_134 ⟨by show _ + 0 ≤ 637990; omega, by show _ + 0 ≤ 7188278; omega⟩) hS hFc (fun r w1 H1 locs hw hP1 hD1 hk1 hS => ?_)
  obtain ⟨rfl, rfl⟩ := hw
  obtain ⟨hP, hD⟩ := jn_A hP hD hk1 hFc hP1 hD1
  clear hP1 hD1 hk1 hPc hDc hFc
  have hP : va_P (dC, dI) vwCl (w_Md_ q2 ad_md tC md ++ (w_Bc_ q1 ad_bc tC rf bc ++ (w_Sg_ (ad_bc 100) ad_sg tC sg2 ++ (w_Tr_ (ad_bc 104) ad_tr tC tr ++ (w_Tr_ (ad_bc 105) ad_tu tC tu ++ (w_Ff_ (ad_bc 103) ad_ff tC ff ++ (w_Pl_ (ad_bc 101) ad_pl tC pl ++ (w_Lw_ (ad_bc 102) ad_lw tC lw ++ (TAL tC nl hL adL LS ns gS aS nS SS FP hF adF FS))))))))) _ := hP
  have hD : va_D (lA s) (w_Md_ q2 ad_md tC md ++ (w_Bc_ q1 ad_bc tC rf bc ++ (w_Sg_ (ad_bc 100) ad_sg tC sg2 ++ (w_Tr_ (ad_bc 104) ad_tr tC tr ++ (w_Tr_ (ad_bc 105) ad_tu tC tu ++ (w_Ff_ (ad_bc 103) ad_ff tC ff ++ (w_Pl_ (ad_bc 101) ad_pl tC pl ++ (w_Lw_ (ad_bc 102) ad_lw tC lw ++ (TAL tC nl hL adL LS ns gS aS nS SS FP hF adF FS))))))))) := hD
  refine W.eq (g2 := F0 m 137 ls [.int r]) rfl ?_
  refine lv_aload_n hx hb d_L_law_137 rfl (lv_at hl 1 rfl) ?_
  refine lv_aload_n hx hb d_L_law_138 rfl (lv_at hl 3 rfl) ?_
  refine lv_iload_n hx hb d_L_law_139 rfl (lv_at hl 0 rfl) ?_
  refine lv_iconst (v := 1) hx hb d_L_law_140 (by decide) ?_
  refine lv_iadd hx hb d_L_law_141 ?_
  refine va_sld hx hb hX hbl hbA hS (i := i + 1) (hr 1 (by omega)) d_L_law_142 ?_
  refine rw_i (y := v1) hv1.symm ?_
  have hPx : va_P (dC, dI) vwCl (([] : va_W) ++ (w_Md_ q2 ad_md tC md ++ (w_Bc_ q1 ad_bc tC rf bc ++ (w_Sg_ (ad_bc 100) ad_sg tC sg2 ++ (w_Tr_ (ad_bc 104) ad_tr tC tr ++ (w_Tr_ (ad_bc 105) ad_tu tC tu ++ (w_Ff_ (ad_bc 103) ad_ff tC ff ++ (w_Pl_ (ad_bc 101) ad_pl tC pl ++ (w_Lw_ (ad_bc 102) ad_lw tC lw ++ (TAL tC nl hL adL LS ns gS aS nS SS FP hF adF FS)))))))))) _ := hP
  have hDx : va_D (lA s) (([] : va_W) ++ (w_Md_ q2 ad_md tC md ++ (w_Bc_ q1 ad_bc tC rf bc ++ (w_Sg_ (ad_bc 100) ad_sg tC sg2 ++ (w_Tr_ (ad_bc 104) ad_tr tC tr ++ (w_Tr_ (ad_bc 105) ad_tu tC tu ++ (w_Ff_ (ad_bc 103) ad_ff tC ff ++ (w_Pl_ (ad_bc 101) ad_pl tC pl ++ (w_Lw_ (ad_bc 102) ad_lw tC lw ++ (TAL tC nl hL adL LS ns gS aS nS SS FP hF adF FS)))))))))) := hD
  obtain ⟨hPc, hDc, hFc⟩ := bk_cut0 hPx hDx hS hA
  refine wr_go (va_runV (As := [.int v1]) (rest := [.int r]) ⟨hx, hb, hml, hown, hts⟩ (m_Md_unit l dC dI tC q2 ad_md md v1 (r, md2) e2 _) (cwV 1 hts (gd_V kM_L_17 kI_Md_unit kV_Md_unit kZ_9 kC_Md_unit) rfl rfl rfl (by decide +kernel) ⟨(by decide +kernel), (by decide +kernel)⟩) ⟨wr_blind, va_recv hK hP (ci := 9) (q0 := 0) rfl rfl, wr_pre hK hPc hDc⟩ rfl rfl hl.1 rfl (lv_room (Nat.le_of_ble_eq_true rfl)) d_L_law_143 ⟨by show _ + 0 ≤ 637990; omega, by show _ + 0 ≤ 7188278; omega⟩) hS hFc (fun r w1 H1 locs hw hP1 hD1 hk1 hS => ?_)
  obtain ⟨rfl, rfl⟩ := hw
  obtain ⟨hP, hD⟩ := bk_join0 (B1 := w_Md_ q2 ad_md tC md2) hPx hDx hk1 hP1 rfl
  clear hP1 hD1 hk1 hPc hDc hFc hPx hDx
  have hP : va_P (dC, dI) vwCl (w_Md_ q2 ad_md tC md2 ++ (w_Bc_ q1 ad_bc tC rf bc ++ (w_Sg_ (ad_bc 100) ad_sg tC sg2 ++ (w_Tr_ (ad_bc 104) ad_tr tC tr ++ (w_Tr_ (ad_bc 105) ad_tu tC tu ++ (w_Ff_ (ad_bc 103) ad_ff tC ff ++ (w_Pl_ (ad_bc 101) ad_pl tC pl ++ (w_Lw_ (ad_bc 102) ad_lw tC lw ++ (TAL tC nl hL adL LS ns gS aS nS SS FP hF adF FS))))))))) _ := hP
  have hD : va_D (lA s) (w_Md_ q2 ad_md tC md2 ++ (w_Bc_ q1 ad_bc tC rf bc ++ (w_Sg_ (ad_bc 100) ad_sg tC sg2 ++ (w_Tr_ (ad_bc 104) ad_tr tC tr ++ (w_Tr_ (ad_bc 105) ad_tu tC tu ++ (w_Ff_ (ad_bc 103) ad_ff tC ff ++ (w_Pl_ (ad_bc 101) ad_pl tC pl ++ (w_Lw_ (ad_bc 102) ad_lw tC lw ++ (TAL tC nl hL adL LS ns gS aS nS SS FP hF adF FS))))))))) := hD
  refine W.eq (g2 := F0 m 146 ls [.int r, .int r]) rfl ?_
  refine lv_icmp_eq (tgt := 1006) hx hb d_L_law_146 (by decide) (fun _ => ?_) (fun c9 => absurd rfl c9)
  refine W.widen (k := C + 3) (n := S + 43) (by omega) (by omega) ?_
  have rs2 : RSs a2 nS SS := by rw [ha]; exact rs
  have pl2 : PL a2 pl md2 := hpl.move (by rw [ha]; rfl) (fun i hi => by rw [ha]; exact ⟨rfl, rfl, rfl⟩) (fun k h1 _ => hm1 k (by omega)) (fun k h1 _ => hm2 k (by omega)) (fun k h1 _ => by rw [hm3])
  have ns2 : ns = a2.ns := by rw [hns, ha]; rfl
  exact K _ _ hS ⟨a2, ad_bc, ad_sg, ad_tr, ad_tu, ad_ff, ad_pl, ad_lw, ad_md, bc, sg2, tr, tu, ff, pl, lw, md2, nl, hL, adL, aT, nT, LS, TS, FP, hF, adF, FS, rf, ns, gS, aS, nS, SS, sh, hP, hD, hFX, ok2, rc2, rm2, rs2, pl2, ns2⟩
