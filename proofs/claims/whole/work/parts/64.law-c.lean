set_option maxHeartbeats 4000000 in
set_option maxRecDepth 100000 in
theorem law_4 {p : Program} {l : Launch} {e : Env} {s : State} {m : MethodId} {b L : Nat} {xs : Nat → Int32} {below : List Frame} {meth : Method} {c : Code} {Q : State → Prop} {dC : Nat → ClassId} {dI : Nat → Nat → Nat} {tC : Nat → ClassId} {q1 q2 : Nat} (h0 : LH p s m c b L xs dC dI tC) {H : Heap} {locs : List Loc} (hS : va_S (lA s) s.heap H locs) (hi : LInv s dC dI tC q1 q2 H) {i : Int32} (hr : ∀ k : Nat, k < 8 → vp_in (i + Int32.ofNat k) L) {C S : Nat} (hC : C + 3 ≤ 637990) (hC2 : S + 43 ≤ 7188278) {ls : Array Slot} (hl : lv_has ls 4 [(3, .int i), (2, .ref q2), (1, .ref q1), (0, .ref b)]) (K : ∀ (H : Heap) (locs : List Loc), va_S (lA s) s.heap H locs → LInv s dC dI tC q1 q2 H → W p l e room_1 s m #[Value.ref b] below meth c H locs (C + 3) (S + 43) Q (F0 m 1006 ls [])) : W p l e room_1 s m #[Value.ref b] below meth c H locs C S Q (F0 m 270 ls []) := by
  obtain ⟨hx, hb, hml, hown, hts, hX, hbl, hK, hN⟩ := h0
  have hA : ∀ q : Nat, s.heap.size ≤ q → lA s q := fun _ h => h
  have hbA : ¬ lA s b := Nat.not_le.mpr hbl
  obtain ⟨a, ad_bc, ad_sg, ad_tr, ad_tu, ad_ff, ad_pl, ad_lw, ad_md, bc, sg, tr, tu, ff, pl, lw, md, nl, hL, adL, aT, nT, LS, TS, FP, hF, adF, FS, rf, ns, gS, aS, nS, SS, sh, hP, hD, hFX, ok, rc, rm, rs, hpl, hns⟩ := hi
  have hFM : FM tC (TAL tC nl hL adL LS ns gS aS nS SS FP hF adF FS) nl hL adL aT nT LS TS FP hF adF FS rf := hFX.fm (fun _ h => h)
  obtain ⟨v1, hv1⟩ : ∃ z : Int32, z = (xs (i + 1).toNatClampNeg) := ⟨_, rfl⟩
  obtain ⟨v2, hv2⟩ : ∃ z : Int32, z = (xs (i + 2).toNatClampNeg) := ⟨_, rfl⟩
  obtain ⟨v3, hv3⟩ : ∃ z : Int64, z = (((xs (i + 3).toNatClampNeg).toInt64 <<< ((32 : Int32).toInt64 &&& 63)) ||| ((xs (i + 4).toNatClampNeg).toInt64 &&& 4294967295)) := ⟨_, rfl⟩
  rcases x_line (tr := tr) (tu := tu) (ff := ff) (pl := pl) (lw := lw) ok rc rm v1 with ⟨i0, hi0, hv, e0, e0m⟩ | ⟨e0, e0m⟩
  · have hi1 : i0 < nl := by rw [rc.nl]; exact hi0
    obtain ⟨T0, t1, t2, t3⟩ := cut_line (tC := tC) (LS := LS) (FS := FS) hFX hi1
    obtain ⟨r, pl2, S2, md2, a2, e1, e2, ok2, rc2, rm2, hd, hn1, hn2, hn3⟩ := x_leg (tr := tr) (tu := tu) (ff := ff) (pl := pl) (lw := lw) ok rc rm hi0 v2 v3
    rw [← hv] at e1 e2
    have hFM2 : FM tC (w_Ln_ (hL i0) (adL i0) tC (LS i0) ++ T0) nl hL adL aT nT LS TS FP hF adF FS rf := hFX.fm (fun q h => t1.mem_iff.mp h)
    have hP := pm_P (lf8 (t1.symm)) hP
    have hD := pm_D (lf8 (t1.symm)) hD
    have hP : va_P (dC, dI) vwCl (w_Md_ q2 ad_md tC md ++ (w_Bc_ q1 ad_bc tC rf bc ++ (w_Sg_ (ad_bc 100) ad_sg tC sg ++ (w_Tr_ (ad_bc 104) ad_tr tC tr ++ (w_Tr_ (ad_bc 105) ad_tu tC tu ++ (w_Ff_ (ad_bc 103) ad_ff tC ff ++ (w_Pl_ (ad_bc 101) ad_pl tC pl ++ (w_Lw_ (ad_bc 102) ad_lw tC lw ++ (w_Ln_ (hL i0) (adL i0) tC (LS i0) ++ T0))))))))) _ := hP
    have hD : va_D (lA s) (w_Md_ q2 ad_md tC md ++ (w_Bc_ q1 ad_bc tC rf bc ++ (w_Sg_ (ad_bc 100) ad_sg tC sg ++ (w_Tr_ (ad_bc 104) ad_tr tC tr ++ (w_Tr_ (ad_bc 105) ad_tu tC tu ++ (w_Ff_ (ad_bc 103) ad_ff tC ff ++ (w_Pl_ (ad_bc 101) ad_pl tC pl ++ (w_Lw_ (ad_bc 102) ad_lw tC lw ++ (w_Ln_ (hL i0) (adL i0) tC (LS i0) ++ T0))))))))) := hD
    refine lv_aload_n hx hb d_L_law_270 rfl (lv_at hl 2 rfl) ?_
    refine lv_aload_n hx hb d_L_law_271 rfl (lv_at hl 3 rfl) ?_
    refine lv_iload_n hx hb d_L_law_272 rfl (lv_at hl 0 rfl) ?_
    refine lv_iconst (v := 1) hx hb d_L_law_273 (by decide) ?_
    refine lv_iadd hx hb d_L_law_274 ?_
    refine va_sld hx hb hX hbl hbA hS (i := i + 1) (hr 1 (by omega)) d_L_law_275 ?_
    refine rw_i (y := v1) hv1.symm ?_
    refine lv_aload_n hx hb d_L_law_276 rfl (lv_at hl 3 rfl) ?_
    refine lv_iload_n hx hb d_L_law_277 rfl (lv_at hl 0 rfl) ?_
    refine lv_iconst (v := 2) hx hb d_L_law_278 (by decide) ?_
    refine lv_iadd hx hb d_L_law_279 ?_
    refine va_sld hx hb hX hbl hbA hS (i := i + 2) (hr 2 (by omega)) d_L_law_280 ?_
    refine rw_i (y := v2) hv2.symm ?_
    refine lv_aload_n hx hb d_L_law_281 rfl (lv_at hl 3 rfl) ?_
    refine lv_iload_n hx hb d_L_law_282 rfl (lv_at hl 0 rfl) ?_
    refine lv_iconst (v := 3) hx hb d_L_law_283 (by decide) ?_
    refine lv_iadd hx hb d_L_law_284 ?_
    refine va_sld hx hb hX hbl hbA hS (i := i + 3) (hr 3 (by omega)) d_L_law_285 ?_
    refine lv_i2l (v := (xs (i + 3).toNatClampNeg).toInt64) hx hb d_L_law_286 rfl ?_
    refine lv_bipush (v := 32) hx hb d_L_law_287 (by decide) ?_
    refine lv_lshl hx hb d_L_law_289 rfl ?_
    refine lv_aload_n hx hb d_L_law_290 rfl (lv_at hl 3 rfl) ?_
    refine lv_iload_n hx hb d_L_law_291 rfl (lv_at hl 0 rfl) ?_
    refine lv_iconst (v := 4) hx hb d_L_law_292 (by decide) ?_
    refine lv_iadd hx hb d_L_law_293 ?_
    refine va_sld hx hb hX hbl hbA hS (i := i + 4) (hr 4 (by omega)) d_L_law_294 ?_
    refine lv_i2l (v := (xs (i + 4).toNatClampNeg).toInt64) hx hb d_L_law_295 rfl ?_
    refine lv_ldc2 (v := 4294967295) hx hb hown (hts _ kK_L_23) d_L_law_296 ?_
    refine lv_land hx hb d_L_law_299 ?_
    refine lv_lor hx hb d_L_law_300 ?_
    refine rw_l (y := v3) hv3.symm ?_
    have hPc := va_P_in (w := (w_Bc_ q1 ad_bc tC rf bc ++ (w_Sg_ (ad_bc 100) ad_sg tC sg ++ (w_Tr_ (ad_bc 104) ad_tr tC tr ++ (w_Tr_ (ad_bc 105) ad_tu tC tu ++ (w_Ff_ (ad_bc 103) ad_ff tC ff ++ (w_Pl_ (ad_bc 101) ad_pl tC pl ++ (w_Lw_ (ad_bc 102) ad_lw tC lw ++ (w_Ln_ (hL i0) (adL i0) tC (LS i0) ++ T0))))))))) hP (fun q h => List.mem_append_right _ h)
    have hDc : va_D (lA s) (w_Bc_ q1 ad_bc tC rf bc ++ (w_Sg_ (ad_bc 100) ad_sg tC sg ++ (w_Tr_ (ad_bc 104) ad_tr tC tr ++ (w_Tr_ (ad_bc 105) ad_tu tC tu ++ (w_Ff_ (ad_bc 103) ad_ff tC ff ++ (w_Pl_ (ad_bc 101) ad_pl tC pl ++ (w_Lw_ (ad_bc 102) ad_lw tC lw ++ (w_Ln_ (hL i0) (adL i0) tC (LS i0) ++ T0)))))))) := D_r hD
    have hFc : ∀ q, va_A (w_Bc_ q1 ad_bc tC rf bc ++ (w_Sg_ (ad_bc 100) ad_sg tC sg ++ (w_Tr_ (ad_bc 104) ad_tr tC tr ++ (w_Tr_ (ad_bc 105) ad_tu tC tu ++ (w_Ff_ (ad_bc 103) ad_ff tC ff ++ (w_Pl_ (ad_bc 101) ad_pl tC pl ++ (w_Lw_ (ad_bc 102) ad_lw tC lw ++ (w_Ln_ (hL i0) (adL i0) tC (LS i0) ++ T0)))))))) _ q → lA s q := va_freeAll hDc hS hA
    refine wr_go (va_runV (As := [.int v1, .int v2, .long v3]) (rest := []) ⟨hx, hb, hml, hown, hts⟩ (m_Bc_leg_i l dC dI tC T0 i0 nl hL adL aT nT LS TS FP hF adF FS rf q1 ad_bc bc ad_sg sg ad_tr tr ad_tu tu ad_ff ff ad_pl pl ad_lw lw v1 v2 v3 (r, bc, sg, tr, tu, ff, pl2, lw, S2) hFM2 t2 e0 e1 _) (cwV 3 hts (gd_V kM_L_35 kI_Bc_leg kV_Bc_leg kZ_8 kC_Bc_leg) rfl rfl rfl (by decide +kernel) ⟨(by decide +kernel), (by decide +kernel)⟩) ⟨wr_blind, va_recv hK hP (ci := 8) (q0 := 37) rfl rfl, wr_pre hK hPc hDc⟩ rfl rfl hl.1 rfl (lv_room (Nat.le_of_ble_eq_true rfl)) d_L_law_301 ⟨by show _ + 0 ≤ 637990; omega, by show _ + 0 ≤ 7188278; omega⟩) hS hFc (fun r w1 H1 locs hw hP1 hD1 hk1 hS => ?_)
    obtain ⟨rfl, rfl⟩ := hw
    obtain ⟨hP, hD⟩ := jn_A hP hD hk1 hFc hP1 hD1
    clear hP1 hD1 hk1 hPc hDc hFc
    have hP : va_P (dC, dI) vwCl (w_Md_ q2 ad_md tC md ++ (w_Bc_ q1 ad_bc tC rf bc ++ (w_Sg_ (ad_bc 100) ad_sg tC sg ++ (w_Tr_ (ad_bc 104) ad_tr tC tr ++ (w_Tr_ (ad_bc 105) ad_tu tC tu ++ (w_Ff_ (ad_bc 103) ad_ff tC ff ++ (w_Pl_ (ad_bc 101) ad_pl tC pl2 ++ (w_Lw_ (ad_bc 102) ad_lw tC lw ++ (w_Ln_ (hL i0) (adL i0) tC S2 ++ T0))))))))) _ := hP
    have hD : va_D (lA s) (w_Md_ q2 ad_md tC md ++ (w_Bc_ q1 ad_bc tC rf bc ++ (w_Sg_ (ad_bc 100) ad_sg tC sg ++ (w_Tr_ (ad_bc 104) ad_tr tC tr ++ (w_Tr_ (ad_bc 105) ad_tu tC tu ++ (w_Ff_ (ad_bc 103) ad_ff tC ff ++ (w_Pl_ (ad_bc 101) ad_pl tC pl2 ++ (w_Lw_ (ad_bc 102) ad_lw tC lw ++ (w_Ln_ (hL i0) (adL i0) tC S2 ++ T0))))))))) := hD
    refine W.eq (g2 := F0 m 304 ls [.int r]) rfl ?_
    refine lv_aload_n hx hb d_L_law_304 rfl (lv_at hl 1 rfl) ?_
    refine lv_aload_n hx hb d_L_law_305 rfl (lv_at hl 3 rfl) ?_
    refine lv_iload_n hx hb d_L_law_306 rfl (lv_at hl 0 rfl) ?_
    refine lv_iconst (v := 1) hx hb d_L_law_307 (by decide) ?_
    refine lv_iadd hx hb d_L_law_308 ?_
    refine va_sld hx hb hX hbl hbA hS (i := i + 1) (hr 1 (by omega)) d_L_law_309 ?_
    refine rw_i (y := v1) hv1.symm ?_
    refine lv_aload_n hx hb d_L_law_310 rfl (lv_at hl 3 rfl) ?_
    refine lv_iload_n hx hb d_L_law_311 rfl (lv_at hl 0 rfl) ?_
    refine lv_iconst (v := 2) hx hb d_L_law_312 (by decide) ?_
    refine lv_iadd hx hb d_L_law_313 ?_
    refine va_sld hx hb hX hbl hbA hS (i := i + 2) (hr 2 (by omega)) d_L_law_314 ?_
    refine rw_i (y := v2) hv2.symm ?_
    refine lv_aload_n hx hb d_L_law_315 rfl (lv_at hl 3 rfl) ?_
    refine lv_iload_n hx hb d_L_law_316 rfl (lv_at hl 0 rfl) ?_
    refine lv_iconst (v := 3) hx hb d_L_law_317 (by decide) ?_
    refine lv_iadd hx hb d_L_law_318 ?_
    refine va_sld hx hb hX hbl hbA hS (i := i + 3) (hr 3 (by omega)) d_L_law_319 ?_
    refine lv_i2l (v := (xs (i + 3).toNatClampNeg).toInt64) hx hb d_L_law_320 rfl ?_
    refine lv_bipush (v := 32) hx hb d_L_law_321 (by decide) ?_
    refine lv_lshl hx hb d_L_law_323 rfl ?_
    refine lv_aload_n hx hb d_L_law_324 rfl (lv_at hl 3 rfl) ?_
    refine lv_iload_n hx hb d_L_law_325 rfl (lv_at hl 0 rfl) ?_
    refine lv_iconst (v := 4) hx hb d_L_law_326 (by decide) ?_
    refine lv_iadd hx hb d_L_law_327 ?_
    refine va_sld hx hb hX hbl hbA hS (i := i + 4) (hr 4 (by omega)) d_L_law_328 ?_
    refine lv_i2l (v := (xs (i + 4).toNatClampNeg).toInt64) hx hb d_L_law_329 rfl ?_
    refine lv_ldc2 (v := 4294967295) hx hb hown (hts _ kK_L_23) d_L_law_330 ?_
    refine lv_land hx hb d_L_law_333 ?_
    refine lv_lor hx hb d_L_law_334 ?_
    refine rw_l (y := v3) hv3.symm ?_
    have hPx : va_P (dC, dI) vwCl (([] : va_W) ++ (w_Md_ q2 ad_md tC md ++ (w_Bc_ q1 ad_bc tC rf bc ++ (w_Sg_ (ad_bc 100) ad_sg tC sg ++ (w_Tr_ (ad_bc 104) ad_tr tC tr ++ (w_Tr_ (ad_bc 105) ad_tu tC tu ++ (w_Ff_ (ad_bc 103) ad_ff tC ff ++ (w_Pl_ (ad_bc 101) ad_pl tC pl2 ++ (w_Lw_ (ad_bc 102) ad_lw tC lw ++ (w_Ln_ (hL i0) (adL i0) tC S2 ++ T0)))))))))) _ := hP
    have hDx : va_D (lA s) (([] : va_W) ++ (w_Md_ q2 ad_md tC md ++ (w_Bc_ q1 ad_bc tC rf bc ++ (w_Sg_ (ad_bc 100) ad_sg tC sg ++ (w_Tr_ (ad_bc 104) ad_tr tC tr ++ (w_Tr_ (ad_bc 105) ad_tu tC tu ++ (w_Ff_ (ad_bc 103) ad_ff tC ff ++ (w_Pl_ (ad_bc 101) ad_pl tC pl2 ++ (w_Lw_ (ad_bc 102) ad_lw tC lw ++ (w_Ln_ (hL i0) (adL i0) tC S2 ++ T0)))))))))) := hD
    obtain ⟨hPc, hDc, hFc⟩ := bk_cut0 hPx hDx hS hA
    refine wr_go (va_runV (As := [.int v1, .int v2, .long v3]) (rest := [.int r]) ⟨hx, hb, hml, hown, hts⟩ (m_Md_leg l dC dI tC q2 ad_md md v1 v2 v3 (r, md2) e2 _) (cwV 3 hts (gd_V kM_L_39 kI_Md_leg kV_Md_leg kZ_9 kC_Md_leg) rfl rfl rfl (by decide +kernel) ⟨(by decide +kernel), (by decide +kernel)⟩) ⟨wr_blind, va_recv hK hP (ci := 9) (q0 := 0) rfl rfl, wr_pre hK hPc hDc⟩ rfl rfl hl.1 rfl (lv_room (Nat.le_of_ble_eq_true rfl)) d_L_law_335 ⟨by show _ + 0 ≤ 637990; omega, by show _ + 0 ≤ 7188278; omega⟩) hS hFc (fun r w1 H1 locs hw hP1 hD1 hk1 hS => ?_)
    obtain ⟨rfl, rfl⟩ := hw
    obtain ⟨hP, hD⟩ := bk_join0 (B1 := w_Md_ q2 ad_md tC md2) hPx hDx hk1 hP1 rfl
    clear hP1 hD1 hk1 hPc hDc hFc hPx hDx
    have hP : va_P (dC, dI) vwCl (w_Md_ q2 ad_md tC md2 ++ (w_Bc_ q1 ad_bc tC rf bc ++ (w_Sg_ (ad_bc 100) ad_sg tC sg ++ (w_Tr_ (ad_bc 104) ad_tr tC tr ++ (w_Tr_ (ad_bc 105) ad_tu tC tu ++ (w_Ff_ (ad_bc 103) ad_ff tC ff ++ (w_Pl_ (ad_bc 101) ad_pl tC pl2 ++ (w_Lw_ (ad_bc 102) ad_lw tC lw ++ (w_Ln_ (hL i0) (adL i0) tC S2 ++ T0))))))))) _ := hP
    have hD : va_D (lA s) (w_Md_ q2 ad_md tC md2 ++ (w_Bc_ q1 ad_bc tC rf bc ++ (w_Sg_ (ad_bc 100) ad_sg tC sg ++ (w_Tr_ (ad_bc 104) ad_tr tC tr ++ (w_Tr_ (ad_bc 105) ad_tu tC tu ++ (w_Ff_ (ad_bc 103) ad_ff tC ff ++ (w_Pl_ (ad_bc 101) ad_pl tC pl2 ++ (w_Lw_ (ad_bc 102) ad_lw tC lw ++ (w_Ln_ (hL i0) (adL i0) tC S2 ++ T0))))))))) := hD
    refine W.eq (g2 := F0 m 338 ls [.int r, .int r]) rfl ?_
    refine lv_icmp_eq (tgt := 1006) hx hb d_L_law_338 (by decide) (fun _ => ?_) (fun c9 => absurd rfl c9)
    refine W.widen (k := C + 3) (n := S + 43) (by omega) (by omega) ?_
    have hpl2 : PL a2 pl2 md2 := hd.elim (fun h => by rw [h.1, h.2.2.1, h.2.2.2]; exact hpl) (fun h => Or.inl h)
    have hP := pm_P (lf8 (t3 S2)) hP
    have hD := pm_D (lf8 (t3 S2)) hD
    exact K _ _ hS ⟨a2, ad_bc, ad_sg, ad_tr, ad_tu, ad_ff, ad_pl, ad_lw, ad_md, bc, sg, tr, tu, ff, pl2, lw, md2, nl, hL, adL, aT, nT, (va_up LS i0 S2), TS, FP, hF, adF, FS, rf, ns, gS, aS, nS, SS, sh, hP, hD, hFX, ok2, rc2, rm2, (fun j hj => by have h9 := rs j (by rw [← hn1]; exact hj); rw [hn2, hn3]; exact h9), hpl2, (by rw [hns, hn1])⟩
  · have e2 : f_Md_leg md v1 v2 v3 = some (0, md) := by
      unfold f_Md_leg
      rw [e0m]
      rfl
    refine lv_aload_n hx hb d_L_law_270 rfl (lv_at hl 2 rfl) ?_
    refine lv_aload_n hx hb d_L_law_271 rfl (lv_at hl 3 rfl) ?_
    refine lv_iload_n hx hb d_L_law_272 rfl (lv_at hl 0 rfl) ?_
    refine lv_iconst (v := 1) hx hb d_L_law_273 (by decide) ?_
    refine lv_iadd hx hb d_L_law_274 ?_
    refine va_sld hx hb hX hbl hbA hS (i := i + 1) (hr 1 (by omega)) d_L_law_275 ?_
    refine rw_i (y := v1) hv1.symm ?_
    refine lv_aload_n hx hb d_L_law_276 rfl (lv_at hl 3 rfl) ?_
    refine lv_iload_n hx hb d_L_law_277 rfl (lv_at hl 0 rfl) ?_
    refine lv_iconst (v := 2) hx hb d_L_law_278 (by decide) ?_
    refine lv_iadd hx hb d_L_law_279 ?_
    refine va_sld hx hb hX hbl hbA hS (i := i + 2) (hr 2 (by omega)) d_L_law_280 ?_
    refine rw_i (y := v2) hv2.symm ?_
    refine lv_aload_n hx hb d_L_law_281 rfl (lv_at hl 3 rfl) ?_
    refine lv_iload_n hx hb d_L_law_282 rfl (lv_at hl 0 rfl) ?_
    refine lv_iconst (v := 3) hx hb d_L_law_283 (by decide) ?_
    refine lv_iadd hx hb d_L_law_284 ?_
    refine va_sld hx hb hX hbl hbA hS (i := i + 3) (hr 3 (by omega)) d_L_law_285 ?_
    refine lv_i2l (v := (xs (i + 3).toNatClampNeg).toInt64) hx hb d_L_law_286 rfl ?_
    refine lv_bipush (v := 32) hx hb d_L_law_287 (by decide) ?_
    refine lv_lshl hx hb d_L_law_289 rfl ?_
    refine lv_aload_n hx hb d_L_law_290 rfl (lv_at hl 3 rfl) ?_
    refine lv_iload_n hx hb d_L_law_291 rfl (lv_at hl 0 rfl) ?_
    refine lv_iconst (v := 4) hx hb d_L_law_292 (by decide) ?_
    refine lv_iadd hx hb d_L_law_293 ?_
    refine va_sld hx hb hX hbl hbA hS (i := i + 4) (hr 4 (by omega)) d_L_law_294 ?_
    refine lv_i2l (v := (xs (i + 4).toNatClampNeg).toInt64) hx hb d_L_law_295 rfl ?_
    refine lv_ldc2 (v := 4294967295) hx hb hown (hts _ kK_L_23) d_L_law_296 ?_
    refine lv_land hx hb d_L_law_299 ?_
    refine lv_lor hx hb d_L_law_300 ?_
    refine rw_l (y := v3) hv3.symm ?_
    have hPc := va_P_in (w := (w_Bc_ q1 ad_bc tC rf bc ++ (w_Sg_ (ad_bc 100) ad_sg tC sg ++ (w_Tr_ (ad_bc 104) ad_tr tC tr ++ (w_Tr_ (ad_bc 105) ad_tu tC tu ++ (w_Ff_ (ad_bc 103) ad_ff tC ff ++ (w_Pl_ (ad_bc 101) ad_pl tC pl ++ (w_Lw_ (ad_bc 102) ad_lw tC lw ++ (TAL tC nl hL adL LS ns gS aS nS SS FP hF adF FS))))))))) hP (fun q h => List.mem_append_right _ h)
    have hDc : va_D (lA s) (w_Bc_ q1 ad_bc tC rf bc ++ (w_Sg_ (ad_bc 100) ad_sg tC sg ++ (w_Tr_ (ad_bc 104) ad_tr tC tr ++ (w_Tr_ (ad_bc 105) ad_tu tC tu ++ (w_Ff_ (ad_bc 103) ad_ff tC ff ++ (w_Pl_ (ad_bc 101) ad_pl tC pl ++ (w_Lw_ (ad_bc 102) ad_lw tC lw ++ (TAL tC nl hL adL LS ns gS aS nS SS FP hF adF FS)))))))) := D_r hD
    have hFc : ∀ q, va_A (w_Bc_ q1 ad_bc tC rf bc ++ (w_Sg_ (ad_bc 100) ad_sg tC sg ++ (w_Tr_ (ad_bc 104) ad_tr tC tr ++ (w_Tr_ (ad_bc 105) ad_tu tC tu ++ (w_Ff_ (ad_bc 103) ad_ff tC ff ++ (w_Pl_ (ad_bc 101) ad_pl tC pl ++ (w_Lw_ (ad_bc 102) ad_lw tC lw ++ (TAL tC nl hL adL LS ns gS aS nS SS FP hF adF FS)))))))) _ q → lA s q := va_freeAll hDc hS hA
    refine wr_go (va_runV (As := [.int v1, .int v2, .long v3]) (rest := []) ⟨hx, hb, hml, hown, hts⟩ (m_Bc_leg_n l dC dI tC (TAL tC nl hL adL LS ns gS aS nS SS FP hF adF FS) nl hL adL aT nT LS TS FP hF adF FS rf q1 ad_bc bc ad_sg sg ad_tr tr ad_tu tu ad_ff ff ad_pl pl ad_lw lw v1 v2 v3 (0, bc, sg, tr, tu, ff, pl, lw) hFM e0 rfl _) (cwV 3 hts (gd_V kM_L_35 kI_Bc_leg kV_Bc_leg kZ_8 kC_Bc_leg) rfl rfl rfl (by decide +kernel) ⟨(by decide +kernel), (by decide +kernel)⟩) ⟨wr_blind, va_recv hK hP (ci := 8) (q0 := 37) rfl rfl, wr_pre hK hPc hDc⟩ rfl rfl hl.1 rfl (lv_room (Nat.le_of_ble_eq_true rfl)) d_L_law_301 ⟨by show _ + 0 ≤ 637990; omega, by show _ + 0 ≤ 7188278; omega⟩) hS hFc (fun r w1 H1 locs hw hP1 hD1 hk1 hS => ?_)
    obtain ⟨rfl, rfl⟩ := hw
    obtain ⟨hP, hD⟩ := jn_A hP hD hk1 hFc hP1 hD1
    clear hP1 hD1 hk1 hPc hDc hFc
    have hP : va_P (dC, dI) vwCl (w_Md_ q2 ad_md tC md ++ (w_Bc_ q1 ad_bc tC rf bc ++ (w_Sg_ (ad_bc 100) ad_sg tC sg ++ (w_Tr_ (ad_bc 104) ad_tr tC tr ++ (w_Tr_ (ad_bc 105) ad_tu tC tu ++ (w_Ff_ (ad_bc 103) ad_ff tC ff ++ (w_Pl_ (ad_bc 101) ad_pl tC pl ++ (w_Lw_ (ad_bc 102) ad_lw tC lw ++ (TAL tC nl hL adL LS ns gS aS nS SS FP hF adF FS))))))))) _ := hP
    have hD : va_D (lA s) (w_Md_ q2 ad_md tC md ++ (w_Bc_ q1 ad_bc tC rf bc ++ (w_Sg_ (ad_bc 100) ad_sg tC sg ++ (w_Tr_ (ad_bc 104) ad_tr tC tr ++ (w_Tr_ (ad_bc 105) ad_tu tC tu ++ (w_Ff_ (ad_bc 103) ad_ff tC ff ++ (w_Pl_ (ad_bc 101) ad_pl tC pl ++ (w_Lw_ (ad_bc 102) ad_lw tC lw ++ (TAL tC nl hL adL LS ns gS aS nS SS FP hF adF FS))))))))) := hD
    refine W.eq (g2 := F0 m 304 ls [.int 0]) rfl ?_
    refine lv_aload_n hx hb d_L_law_304 rfl (lv_at hl 1 rfl) ?_
    refine lv_aload_n hx hb d_L_law_305 rfl (lv_at hl 3 rfl) ?_
    refine lv_iload_n hx hb d_L_law_306 rfl (lv_at hl 0 rfl) ?_
    refine lv_iconst (v := 1) hx hb d_L_law_307 (by decide) ?_
    refine lv_iadd hx hb d_L_law_308 ?_
    refine va_sld hx hb hX hbl hbA hS (i := i + 1) (hr 1 (by omega)) d_L_law_309 ?_
    refine rw_i (y := v1) hv1.symm ?_
    refine lv_aload_n hx hb d_L_law_310 rfl (lv_at hl 3 rfl) ?_
    refine lv_iload_n hx hb d_L_law_311 rfl (lv_at hl 0 rfl) ?_
    refine lv_iconst (v := 2) hx hb d_L_law_312 (by decide) ?_
    refine lv_iadd hx hb d_L_law_313 ?_
    refine va_sld hx hb hX hbl hbA hS (i := i + 2) (hr 2 (by omega)) d_L_law_314 ?_
    refine rw_i (y := v2) hv2.symm ?_
    refine lv_aload_n hx hb d_L_law_315 rfl (lv_at hl 3 rfl) ?_
    refine lv_iload_n hx hb d_L_law_316 rfl (lv_at hl 0 rfl) ?_
    refine lv_iconst (v := 3) hx hb d_L_law_317 (by decide) ?_
    refine lv_iadd hx hb d_L_law_318 ?_
    refine va_sld hx hb hX hbl hbA hS (i := i + 3) (hr 3 (by omega)) d_L_law_319 ?_
    refine lv_i2l (v := (xs (i + 3).toNatClampNeg).toInt64) hx hb d_L_law_320 rfl ?_
    refine lv_bipush (v := 32) hx hb d_L_law_321 (by decide) ?_
    refine lv_lshl hx hb d_L_law_323 rfl ?_
    refine lv_aload_n hx hb d_L_law_324 rfl (lv_at hl 3 rfl) ?_
    refine lv_iload_n hx hb d_L_law_325 rfl (lv_at hl 0 rfl) ?_
    refine lv_iconst (v := 4) hx hb d_L_law_326 (by decide) ?_
    refine lv_iadd hx hb d_L_law_327 ?_
    refine va_sld hx hb hX hbl hbA hS (i := i + 4) (hr 4 (by omega)) d_L_law_328 ?_
    refine lv_i2l (v := (xs (i + 4).toNatClampNeg).toInt64) hx hb d_L_law_329 rfl ?_
    refine lv_ldc2 (v := 4294967295) hx hb hown (hts _ kK_L_23) d_L_law_330 ?_
    refine lv_land hx hb d_L_law_333 ?_
    refine lv_lor hx hb d_L_law_334 ?_
    refine rw_l (y := v3) hv3.symm ?_
    have hPx : va_P (dC, dI) vwCl (([] : va_W) ++ (w_Md_ q2 ad_md tC md ++ (w_Bc_ q1 ad_bc tC rf bc ++ (w_Sg_ (ad_bc 100) ad_sg tC sg ++ (w_Tr_ (ad_bc 104) ad_tr tC tr ++ (w_Tr_ (ad_bc 105) ad_tu tC tu ++ (w_Ff_ (ad_bc 103) ad_ff tC ff ++ (w_Pl_ (ad_bc 101) ad_pl tC pl ++ (w_Lw_ (ad_bc 102) ad_lw tC lw ++ (TAL tC nl hL adL LS ns gS aS nS SS FP hF adF FS)))))))))) _ := hP
    have hDx : va_D (lA s) (([] : va_W) ++ (w_Md_ q2 ad_md tC md ++ (w_Bc_ q1 ad_bc tC rf bc ++ (w_Sg_ (ad_bc 100) ad_sg tC sg ++ (w_Tr_ (ad_bc 104) ad_tr tC tr ++ (w_Tr_ (ad_bc 105) ad_tu tC tu ++ (w_Ff_ (ad_bc 103) ad_ff tC ff ++ (w_Pl_ (ad_bc 101) ad_pl tC pl ++ (w_Lw_ (ad_bc 102) ad_lw tC lw ++ (TAL tC nl hL adL LS ns gS aS nS SS FP hF adF FS)))))))))) := hD
    obtain ⟨hPc, hDc, hFc⟩ := bk_cut0 hPx hDx hS hA
    refine wr_go (va_runV (As := [.int v1, .int v2, .long v3]) (rest := [.int 0]) ⟨hx, hb, hml, hown, hts⟩ (m_Md_leg l dC dI tC q2 ad_md md v1 v2 v3 (0, md) e2 _) (cwV 3 hts (gd_V kM_L_39 kI_Md_leg kV_Md_leg kZ_9 kC_Md_leg) rfl rfl rfl (by decide +kernel) ⟨(by decide +kernel), (by decide +kernel)⟩) ⟨wr_blind, va_recv hK hP (ci := 9) (q0 := 0) rfl rfl, wr_pre hK hPc hDc⟩ rfl rfl hl.1 rfl (lv_room (Nat.le_of_ble_eq_true rfl)) d_L_law_335 ⟨by show _ + 0 ≤ 637990; omega, by show _ + 0 ≤ 7188278; omega⟩) hS hFc (fun r w1 H1 locs hw hP1 hD1 hk1 hS => ?_)
    obtain ⟨rfl, rfl⟩ := hw
    obtain ⟨hP, hD⟩ := bk_join0 (B1 := w_Md_ q2 ad_md tC md) hPx hDx hk1 hP1 rfl
    clear hP1 hD1 hk1 hPc hDc hFc hPx hDx
    have hP : va_P (dC, dI) vwCl (w_Md_ q2 ad_md tC md ++ (w_Bc_ q1 ad_bc tC rf bc ++ (w_Sg_ (ad_bc 100) ad_sg tC sg ++ (w_Tr_ (ad_bc 104) ad_tr tC tr ++ (w_Tr_ (ad_bc 105) ad_tu tC tu ++ (w_Ff_ (ad_bc 103) ad_ff tC ff ++ (w_Pl_ (ad_bc 101) ad_pl tC pl ++ (w_Lw_ (ad_bc 102) ad_lw tC lw ++ (TAL tC nl hL adL LS ns gS aS nS SS FP hF adF FS))))))))) _ := hP
    have hD : va_D (lA s) (w_Md_ q2 ad_md tC md ++ (w_Bc_ q1 ad_bc tC rf bc ++ (w_Sg_ (ad_bc 100) ad_sg tC sg ++ (w_Tr_ (ad_bc 104) ad_tr tC tr ++ (w_Tr_ (ad_bc 105) ad_tu tC tu ++ (w_Ff_ (ad_bc 103) ad_ff tC ff ++ (w_Pl_ (ad_bc 101) ad_pl tC pl ++ (w_Lw_ (ad_bc 102) ad_lw tC lw ++ (TAL tC nl hL adL LS ns gS aS nS SS FP hF adF FS))))))))) := hD
    refine W.eq (g2 := F0 m 338 ls [.int 0, .int 0]) rfl ?_
    refine lv_icmp_eq (tgt := 1006) hx hb d_L_law_338 (by decide) (fun _ => ?_) (fun c9 => absurd rfl c9)
    refine W.widen (k := C + 3) (n := S + 43) (by omega) (by omega) ?_
    exact K _ _ hS ⟨a, ad_bc, ad_sg, ad_tr, ad_tu, ad_ff, ad_pl, ad_lw, ad_md, bc, sg, tr, tu, ff, pl, lw, md, nl, hL, adL, aT, nT, LS, TS, FP, hF, adF, FS, rf, ns, gS, aS, nS, SS, sh, hP, hD, hFX, ok, rc, rm, rs, hpl, hns⟩
set_option maxHeartbeats 4000000 in
set_option maxRecDepth 100000 in
theorem law_12 {p : Program} {l : Launch} {e : Env} {s : State} {m : MethodId} {b L : Nat} {xs : Nat → Int32} {below : List Frame} {meth : Method} {c : Code} {Q : State → Prop} {dC : Nat → ClassId} {dI : Nat → Nat → Nat} {tC : Nat → ClassId} {q1 q2 : Nat} (h0 : LH p s m c b L xs dC dI tC) {H : Heap} {locs : List Loc} (hS : va_S (lA s) s.heap H locs) (hi : LInv s dC dI tC q1 q2 H) {i : Int32} (hr : ∀ k : Nat, k < 8 → vp_in (i + Int32.ofNat k) L) {C S : Nat} (hC : C + 3 ≤ 637990) (hC2 : S + 43 ≤ 7188278) {ls : Array Slot} (hl : lv_has ls 4 [(3, .int i), (2, .ref q2), (1, .ref q1), (0, .ref b)]) (K : ∀ (H : Heap) (locs : List Loc), va_S (lA s) s.heap H locs → LInv s dC dI tC q1 q2 H → W p l e room_1 s m #[Value.ref b] below meth c H locs (C + 3) (S + 43) Q (F0 m 1006 ls [])) : W p l e room_1 s m #[Value.ref b] below meth c H locs C S Q (F0 m 597 ls []) := by
  obtain ⟨hx, hb, hml, hown, hts, hX, hbl, hK, hN⟩ := h0
  have hA : ∀ q : Nat, s.heap.size ≤ q → lA s q := fun _ h => h
  have hbA : ¬ lA s b := Nat.not_le.mpr hbl
  obtain ⟨a, ad_bc, ad_sg, ad_tr, ad_tu, ad_ff, ad_pl, ad_lw, ad_md, bc, sg, tr, tu, ff, pl, lw, md, nl, hL, adL, aT, nT, LS, TS, FP, hF, adF, FS, rf, ns, gS, aS, nS, SS, sh, hP, hD, hFX, ok, rc, rm, rs, hpl, hns⟩ := hi
  have hFM : FM tC (TAL tC nl hL adL LS ns gS aS nS SS FP hF adF FS) nl hL adL aT nT LS TS FP hF adF FS rf := hFX.fm (fun _ h => h)
  obtain ⟨v1, hv1⟩ : ∃ z : Int32, z = (xs (i + 1).toNatClampNeg) := ⟨_, rfl⟩
  obtain ⟨v2, hv2⟩ : ∃ z : Int64, z = (((xs (i + 2).toNatClampNeg).toInt64 <<< ((32 : Int32).toInt64 &&& 63)) ||| ((xs (i + 3).toNatClampNeg).toInt64 &&& 4294967295)) := ⟨_, rfl⟩
  obtain ⟨v3, hv3⟩ : ∃ z : Int64, z = (((xs (i + 4).toNatClampNeg).toInt64 <<< ((32 : Int32).toInt64 &&& 63)) ||| ((xs (i + 5).toNatClampNeg).toInt64 &&& 4294967295)) := ⟨_, rfl⟩
  obtain ⟨v4, hv4⟩ : ∃ z : Int64, z = (((xs (i + 6).toNatClampNeg).toInt64 <<< ((32 : Int32).toInt64 &&& 63)) ||| ((xs (i + 7).toNatClampNeg).toInt64 &&& 4294967295)) := ⟨_, rfl⟩
  rcases x_line (tr := tr) (tu := tu) (ff := ff) (pl := pl) (lw := lw) ok rc rm v1 with ⟨i0, hi0, hv, e0, e0m⟩ | ⟨e0, e0m⟩
  · have hi1 : i0 < nl := by rw [rc.nl]; exact hi0
    obtain ⟨T0, t1, t2, t3⟩ := cut_line (tC := tC) (LS := LS) (FS := FS) hFX hi1
    obtain ⟨r, S2, md2, a2, e1, e2, ok2, rc2, rm2, ha, hm1, hm2, hm3⟩ := x_place (tr := tr) (tu := tu) (ff := ff) (pl := pl) (lw := lw) ok rc rm hi0 v2 v3 v4
    rw [← hv] at e1 e2
    have hFM2 : FM tC (w_Ln_ (hL i0) (adL i0) tC (LS i0) ++ T0) nl hL adL aT nT LS TS FP hF adF FS rf := hFX.fm (fun q h => t1.mem_iff.mp h)
    have hP := pm_P (lf8 (t1.symm)) hP
    have hD := pm_D (lf8 (t1.symm)) hD
    have hP : va_P (dC, dI) vwCl (w_Md_ q2 ad_md tC md ++ (w_Bc_ q1 ad_bc tC rf bc ++ (w_Sg_ (ad_bc 100) ad_sg tC sg ++ (w_Tr_ (ad_bc 104) ad_tr tC tr ++ (w_Tr_ (ad_bc 105) ad_tu tC tu ++ (w_Ff_ (ad_bc 103) ad_ff tC ff ++ (w_Pl_ (ad_bc 101) ad_pl tC pl ++ (w_Lw_ (ad_bc 102) ad_lw tC lw ++ (w_Ln_ (hL i0) (adL i0) tC (LS i0) ++ T0))))))))) _ := hP
    have hD : va_D (lA s) (w_Md_ q2 ad_md tC md ++ (w_Bc_ q1 ad_bc tC rf bc ++ (w_Sg_ (ad_bc 100) ad_sg tC sg ++ (w_Tr_ (ad_bc 104) ad_tr tC tr ++ (w_Tr_ (ad_bc 105) ad_tu tC tu ++ (w_Ff_ (ad_bc 103) ad_ff tC ff ++ (w_Pl_ (ad_bc 101) ad_pl tC pl ++ (w_Lw_ (ad_bc 102) ad_lw tC lw ++ (w_Ln_ (hL i0) (adL i0) tC (LS i0) ++ T0))))))))) := hD
    refine lv_aload_n hx hb d_L_law_597 rfl (lv_at hl 2 rfl) ?_
    refine lv_aload_n hx hb d_L_law_598 rfl (lv_at hl 3 rfl) ?_
    refine lv_iload_n hx hb d_L_law_599 rfl (lv_at hl 0 rfl) ?_
    refine lv_iconst (v := 1) hx hb d_L_law_600 (by decide) ?_
    refine lv_iadd hx hb d_L_law_601 ?_
    refine va_sld hx hb hX hbl hbA hS (i := i + 1) (hr 1 (by omega)) d_L_law_602 ?_
    refine rw_i (y := v1) hv1.symm ?_
    refine lv_aload_n hx hb d_L_law_603 rfl (lv_at hl 3 rfl) ?_
    refine lv_iload_n hx hb d_L_law_604 rfl (lv_at hl 0 rfl) ?_
    refine lv_iconst (v := 2) hx hb d_L_law_605 (by decide) ?_
    refine lv_iadd hx hb d_L_law_606 ?_
    refine va_sld hx hb hX hbl hbA hS (i := i + 2) (hr 2 (by omega)) d_L_law_607 ?_
    refine lv_i2l (v := (xs (i + 2).toNatClampNeg).toInt64) hx hb d_L_law_608 rfl ?_
    refine lv_bipush (v := 32) hx hb d_L_law_609 (by decide) ?_
    refine lv_lshl hx hb d_L_law_611 rfl ?_
    refine lv_aload_n hx hb d_L_law_612 rfl (lv_at hl 3 rfl) ?_
    refine lv_iload_n hx hb d_L_law_613 rfl (lv_at hl 0 rfl) ?_
    refine lv_iconst (v := 3) hx hb d_L_law_614 (by decide) ?_
    refine lv_iadd hx hb d_L_law_615 ?_
    refine va_sld hx hb hX hbl hbA hS (i := i + 3) (hr 3 (by omega)) d_L_law_616 ?_
    refine lv_i2l (v := (xs (i + 3).toNatClampNeg).toInt64) hx hb d_L_law_617 rfl ?_
    refine lv_ldc2 (v := 4294967295) hx hb hown (hts _ kK_L_23) d_L_law_618 ?_
    refine lv_land hx hb d_L_law_621 ?_
    refine lv_lor hx hb d_L_law_622 ?_
    refine rw_l (y := v2) hv2.symm ?_
    refine lv_aload_n hx hb d_L_law_623 rfl (lv_at hl 3 rfl) ?_
    refine lv_iload_n hx hb d_L_law_624 rfl (lv_at hl 0 rfl) ?_
    refine lv_iconst (v := 4) hx hb d_L_law_625 (by decide) ?_
    refine lv_iadd hx hb d_L_law_626 ?_
    refine va_sld hx hb hX hbl hbA hS (i := i + 4) (hr 4 (by omega)) d_L_law_627 ?_
    refine lv_i2l (v := (xs (i + 4).toNatClampNeg).toInt64) hx hb d_L_law_628 rfl ?_
    refine lv_bipush (v := 32) hx hb d_L_law_629 (by decide) ?_
    refine lv_lshl hx hb d_L_law_631 rfl ?_
    refine lv_aload_n hx hb d_L_law_632 rfl (lv_at hl 3 rfl) ?_
    refine lv_iload_n hx hb d_L_law_633 rfl (lv_at hl 0 rfl) ?_
    refine lv_iconst (v := 5) hx hb d_L_law_634 (by decide) ?_
    refine lv_iadd hx hb d_L_law_635 ?_
    refine va_sld hx hb hX hbl hbA hS (i := i + 5) (hr 5 (by omega)) d_L_law_636 ?_
    refine lv_i2l (v := (xs (i + 5).toNatClampNeg).toInt64) hx hb d_L_law_637 rfl ?_
    refine lv_ldc2 (v := 4294967295) hx hb hown (hts _ kK_L_23) d_L_law_638 ?_
    refine lv_land hx hb d_L_law_641 ?_
    refine lv_lor hx hb d_L_law_642 ?_
    refine rw_l (y := v3) hv3.symm ?_
    refine lv_aload_n hx hb d_L_law_643 rfl (lv_at hl 3 rfl) ?_
    refine lv_iload_n hx hb d_L_law_644 rfl (lv_at hl 0 rfl) ?_
    refine lv_bipush (v := 6) hx hb d_L_law_645 (by decide) ?_
    refine lv_iadd hx hb d_L_law_647 ?_
    refine va_sld hx hb hX hbl hbA hS (i := i + 6) (hr 6 (by omega)) d_L_law_648 ?_
    refine lv_i2l (v := (xs (i + 6).toNatClampNeg).toInt64) hx hb d_L_law_649 rfl ?_
    refine lv_bipush (v := 32) hx hb d_L_law_650 (by decide) ?_
    refine lv_lshl hx hb d_L_law_652 rfl ?_
    refine lv_aload_n hx hb d_L_law_653 rfl (lv_at hl 3 rfl) ?_
    refine lv_iload_n hx hb d_L_law_654 rfl (lv_at hl 0 rfl) ?_
    refine lv_bipush (v := 7) hx hb d_L_law_655 (by decide) ?_
    refine lv_iadd hx hb d_L_law_657 ?_
    refine va_sld hx hb hX hbl hbA hS (i := i + 7) (hr 7 (by omega)) d_L_law_658 ?_
    refine lv_i2l (v := (xs (i + 7).toNatClampNeg).toInt64) hx hb d_L_law_659 rfl ?_
    refine lv_ldc2 (v := 4294967295) hx hb hown (hts _ kK_L_23) d_L_law_660 ?_
    refine lv_land hx hb d_L_law_663 ?_
    refine lv_lor hx hb d_L_law_664 ?_
    refine rw_l (y := v4) hv4.symm ?_
    have hPc := va_P_in (w := (w_Bc_ q1 ad_bc tC rf bc ++ (w_Sg_ (ad_bc 100) ad_sg tC sg ++ (w_Tr_ (ad_bc 104) ad_tr tC tr ++ (w_Tr_ (ad_bc 105) ad_tu tC tu ++ (w_Ff_ (ad_bc 103) ad_ff tC ff ++ (w_Pl_ (ad_bc 101) ad_pl tC pl ++ (w_Lw_ (ad_bc 102) ad_lw tC lw ++ (w_Ln_ (hL i0) (adL i0) tC (LS i0) ++ T0))))))))) hP (fun q h => List.mem_append_right _ h)
    have hDc : va_D (lA s) (w_Bc_ q1 ad_bc tC rf bc ++ (w_Sg_ (ad_bc 100) ad_sg tC sg ++ (w_Tr_ (ad_bc 104) ad_tr tC tr ++ (w_Tr_ (ad_bc 105) ad_tu tC tu ++ (w_Ff_ (ad_bc 103) ad_ff tC ff ++ (w_Pl_ (ad_bc 101) ad_pl tC pl ++ (w_Lw_ (ad_bc 102) ad_lw tC lw ++ (w_Ln_ (hL i0) (adL i0) tC (LS i0) ++ T0)))))))) := D_r hD
    have hFc : ∀ q, va_A (w_Bc_ q1 ad_bc tC rf bc ++ (w_Sg_ (ad_bc 100) ad_sg tC sg ++ (w_Tr_ (ad_bc 104) ad_tr tC tr ++ (w_Tr_ (ad_bc 105) ad_tu tC tu ++ (w_Ff_ (ad_bc 103) ad_ff tC ff ++ (w_Pl_ (ad_bc 101) ad_pl tC pl ++ (w_Lw_ (ad_bc 102) ad_lw tC lw ++ (w_Ln_ (hL i0) (adL i0) tC (LS i0) ++ T0)))))))) _ q → lA s q := va_freeAll hDc hS hA
    refine wr_go (va_runV (As := [.int v1, .long v2, .long v3, .long v4]) (rest := []) ⟨hx, hb, hml, hown, hts⟩ (m_Bc_place_i l dC dI tC T0 i0 nl hL adL aT nT LS TS FP hF adF FS rf q1 ad_bc bc ad_sg sg ad_tr tr ad_tu tu ad_ff ff ad_pl pl ad_lw lw v1 v2 v3 v4 (r, bc, sg, tr, tu, ff, pl, lw, S2) hFM2 t2 e0 e1 _) (cwV 4 hts (gd_V kM_L_74 kI_Bc_place kV_Bc_place kZ_8 kC_Bc_place) rfl rfl rfl (by decide +kernel) ⟨(by decide +kernel), (by decide +kernel)⟩) ⟨wr_blind, va_recv hK hP (ci := 8) (q0 := 37) rfl rfl, wr_pre hK hPc hDc⟩ rfl rfl hl.1 rfl (lv_room (Nat.le_of_ble_eq_true rfl)) d_L_law_665 ⟨by show _ + 0 ≤ 637990; omega, by show _ + 0 ≤ 7188278; omega⟩) hS hFc (fun r w1 H1 locs hw hP1 hD1 hk1 hS => ?_)
    obtain ⟨rfl, rfl⟩ := hw
    obtain ⟨hP, hD⟩ := jn_A hP hD hk1 hFc hP1 hD1
    clear hP1 hD1 hk1 hPc hDc hFc
    have hP : va_P (dC, dI) vwCl (w_Md_ q2 ad_md tC md ++ (w_Bc_ q1 ad_bc tC rf bc ++ (w_Sg_ (ad_bc 100) ad_sg tC sg ++ (w_Tr_ (ad_bc 104) ad_tr tC tr ++ (w_Tr_ (ad_bc 105) ad_tu tC tu ++ (w_Ff_ (ad_bc 103) ad_ff tC ff ++ (w_Pl_ (ad_bc 101) ad_pl tC pl ++ (w_Lw_ (ad_bc 102) ad_lw tC lw ++ (w_Ln_ (hL i0) (adL i0) tC S2 ++ T0))))))))) _ := hP
    have hD : va_D (lA s) (w_Md_ q2 ad_md tC md ++ (w_Bc_ q1 ad_bc tC rf bc ++ (w_Sg_ (ad_bc 100) ad_sg tC sg ++ (w_Tr_ (ad_bc 104) ad_tr tC tr ++ (w_Tr_ (ad_bc 105) ad_tu tC tu ++ (w_Ff_ (ad_bc 103) ad_ff tC ff ++ (w_Pl_ (ad_bc 101) ad_pl tC pl ++ (w_Lw_ (ad_bc 102) ad_lw tC lw ++ (w_Ln_ (hL i0) (adL i0) tC S2 ++ T0))))))))) := hD
    refine W.eq (g2 := F0 m 668 ls [.int r]) rfl ?_
    refine lv_aload_n hx hb d_L_law_668 rfl (lv_at hl 1 rfl) ?_
    refine lv_aload_n hx hb d_L_law_669 rfl (lv_at hl 3 rfl) ?_
    refine lv_iload_n hx hb d_L_law_670 rfl (lv_at hl 0 rfl) ?_
    refine lv_iconst (v := 1) hx hb d_L_law_671 (by decide) ?_
    refine lv_iadd hx hb d_L_law_672 ?_
    refine va_sld hx hb hX hbl hbA hS (i := i + 1) (hr 1 (by omega)) d_L_law_673 ?_
    refine rw_i (y := v1) hv1.symm ?_
    refine lv_aload_n hx hb d_L_law_674 rfl (lv_at hl 3 rfl) ?_
    refine lv_iload_n hx hb d_L_law_675 rfl (lv_at hl 0 rfl) ?_
    refine lv_iconst (v := 2) hx hb d_L_law_676 (by decide) ?_
    refine lv_iadd hx hb d_L_law_677 ?_
    refine va_sld hx hb hX hbl hbA hS (i := i + 2) (hr 2 (by omega)) d_L_law_678 ?_
    refine lv_i2l (v := (xs (i + 2).toNatClampNeg).toInt64) hx hb d_L_law_679 rfl ?_
    refine lv_bipush (v := 32) hx hb d_L_law_680 (by decide) ?_
    refine lv_lshl hx hb d_L_law_682 rfl ?_
    refine lv_aload_n hx hb d_L_law_683 rfl (lv_at hl 3 rfl) ?_
    refine lv_iload_n hx hb d_L_law_684 rfl (lv_at hl 0 rfl) ?_
    refine lv_iconst (v := 3) hx hb d_L_law_685 (by decide) ?_
    refine lv_iadd hx hb d_L_law_686 ?_
    refine va_sld hx hb hX hbl hbA hS (i := i + 3) (hr 3 (by omega)) d_L_law_687 ?_
    refine lv_i2l (v := (xs (i + 3).toNatClampNeg).toInt64) hx hb d_L_law_688 rfl ?_
    refine lv_ldc2 (v := 4294967295) hx hb hown (hts _ kK_L_23) d_L_law_689 ?_
    refine lv_land hx hb d_L_law_692 ?_
    refine lv_lor hx hb d_L_law_693 ?_
    refine rw_l (y := v2) hv2.symm ?_
    refine lv_aload_n hx hb d_L_law_694 rfl (lv_at hl 3 rfl) ?_
    refine lv_iload_n hx hb d_L_law_695 rfl (lv_at hl 0 rfl) ?_
    refine lv_iconst (v := 4) hx hb d_L_law_696 (by decide) ?_
    refine lv_iadd hx hb d_L_law_697 ?_
    refine va_sld hx hb hX hbl hbA hS (i := i + 4) (hr 4 (by omega)) d_L_law_698 ?_
    refine lv_i2l (v := (xs (i + 4).toNatClampNeg).toInt64) hx hb d_L_law_699 rfl ?_
    refine lv_bipush (v := 32) hx hb d_L_law_700 (by decide) ?_
    refine lv_lshl hx hb d_L_law_702 rfl ?_
    refine lv_aload_n hx hb d_L_law_703 rfl (lv_at hl 3 rfl) ?_
    refine lv_iload_n hx hb d_L_law_704 rfl (lv_at hl 0 rfl) ?_
    refine lv_iconst (v := 5) hx hb d_L_law_705 (by decide) ?_
    refine lv_iadd hx hb d_L_law_706 ?_
    refine va_sld hx hb hX hbl hbA hS (i := i + 5) (hr 5 (by omega)) d_L_law_707 ?_
    refine lv_i2l (v := (xs (i + 5).toNatClampNeg).toInt64) hx hb d_L_law_708 rfl ?_
    refine lv_ldc2 (v := 4294967295) hx hb hown (hts _ kK_L_23) d_L_law_709 ?_
    refine lv_land hx hb d_L_law_712 ?_
    refine lv_lor hx hb d_L_law_713 ?_
    refine rw_l (y := v3) hv3.symm ?_
    refine lv_aload_n hx hb d_L_law_714 rfl (lv_at hl 3 rfl) ?_
    refine lv_iload_n hx hb d_L_law_715 rfl (lv_at hl 0 rfl) ?_
    refine lv_bipush (v := 6) hx hb d_L_law_716 (by decide) ?_
    refine lv_iadd hx hb d_L_law_718 ?_
    refine va_sld hx hb hX hbl hbA hS (i := i + 6) (hr 6 (by omega)) d_L_law_719 ?_
    refine lv_i2l (v := (xs (i + 6).toNatClampNeg).toInt64) hx hb d_L_law_720 rfl ?_
    refine lv_bipush (v := 32) hx hb d_L_law_721 (by decide) ?_
    refine lv_lshl hx hb d_L_law_723 rfl ?_
    refine lv_aload_n hx hb d_L_law_724 rfl (lv_at hl 3 rfl) ?_
    refine lv_iload_n hx hb d_L_law_725 rfl (lv_at hl 0 rfl) ?_
    refine lv_bipush (v := 7) hx hb d_L_law_726 (by decide) ?_
    refine lv_iadd hx hb d_L_law_728 ?_
    refine va_sld hx hb hX hbl hbA hS (i := i + 7) (hr 7 (by omega)) d_L_law_729 ?_
    refine lv_i2l (v := (xs (i + 7).toNatClampNeg).toInt64) hx hb d_L_law_730 rfl ?_
    refine lv_ldc2 (v := 4294967295) hx hb hown (hts _ kK_L_23) d_L_law_731 ?_
    refine lv_land hx hb d_L_law_734 ?_
    refine lv_lor hx hb d_L_law_735 ?_
    refine rw_l (y := v4) hv4.symm ?_
    have hPx : va_P (dC, dI) vwCl (([] : va_W) ++ (w_Md_ q2 ad_md tC md ++ (w_Bc_ q1 ad_bc tC rf bc ++ (w_Sg_ (ad_bc 100) ad_sg tC sg ++ (w_Tr_ (ad_bc 104) ad_tr tC tr ++ (w_Tr_ (ad_bc 105) ad_tu tC tu ++ (w_Ff_ (ad_bc 103) ad_ff tC ff ++ (w_Pl_ (ad_bc 101) ad_pl tC pl ++ (w_Lw_ (ad_bc 102) ad_lw tC lw ++ (w_Ln_ (hL i0) (adL i0) tC S2 ++ T0)))))))))) _ := hP
    have hDx : va_D (lA s) (([] : va_W) ++ (w_Md_ q2 ad_md tC md ++ (w_Bc_ q1 ad_bc tC rf bc ++ (w_Sg_ (ad_bc 100) ad_sg tC sg ++ (w_Tr_ (ad_bc 104) ad_tr tC tr ++ (w_Tr_ (ad_bc 105) ad_tu tC tu ++ (w_Ff_ (ad_bc 103) ad_ff tC ff ++ (w_Pl_ (ad_bc 101) ad_pl tC pl ++ (w_Lw_ (ad_bc 102) ad_lw tC lw ++ (w_Ln_ (hL i0) (adL i0) tC S2 ++ T0)))))))))) := hD
    obtain ⟨hPc, hDc, hFc⟩ := bk_cut0 hPx hDx hS hA
    refine wr_go (va_runV (As := [.int v1, .long v2, .long v3, .long v4]) (rest := [.int r]) ⟨hx, hb, hml, hown, hts⟩ (m_Md_place l dC dI tC q2 ad_md md v1 v2 v3 v4 (r, md2) e2 _) (cwV 4 hts (gd_V kM_L_78 kI_Md_place kV_Md_place kZ_9 kC_Md_place) rfl rfl rfl (by decide +kernel) ⟨(by decide +kernel), (by decide +kernel)⟩) ⟨wr_blind, va_recv hK hP (ci := 9) (q0 := 0) rfl rfl, wr_pre hK hPc hDc⟩ rfl rfl hl.1 rfl (lv_room (Nat.le_of_ble_eq_true rfl)) d_L_law_736 ⟨by show _ + 0 ≤ 637990; omega, by show _ + 0 ≤ 7188278; omega⟩) hS hFc (fun r w1 H1 locs hw hP1 hD1 hk1 hS => ?_)
    obtain ⟨rfl, rfl⟩ := hw
    obtain ⟨hP, hD⟩ := bk_join0 (B1 := w_Md_ q2 ad_md tC md2) hPx hDx hk1 hP1 rfl
    clear hP1 hD1 hk1 hPc hDc hFc hPx hDx
    have hP : va_P (dC, dI) vwCl (w_Md_ q2 ad_md tC md2 ++ (w_Bc_ q1 ad_bc tC rf bc ++ (w_Sg_ (ad_bc 100) ad_sg tC sg ++ (w_Tr_ (ad_bc 104) ad_tr tC tr ++ (w_Tr_ (ad_bc 105) ad_tu tC tu ++ (w_Ff_ (ad_bc 103) ad_ff tC ff ++ (w_Pl_ (ad_bc 101) ad_pl tC pl ++ (w_Lw_ (ad_bc 102) ad_lw tC lw ++ (w_Ln_ (hL i0) (adL i0) tC S2 ++ T0))))))))) _ := hP
    have hD : va_D (lA s) (w_Md_ q2 ad_md tC md2 ++ (w_Bc_ q1 ad_bc tC rf bc ++ (w_Sg_ (ad_bc 100) ad_sg tC sg ++ (w_Tr_ (ad_bc 104) ad_tr tC tr ++ (w_Tr_ (ad_bc 105) ad_tu tC tu ++ (w_Ff_ (ad_bc 103) ad_ff tC ff ++ (w_Pl_ (ad_bc 101) ad_pl tC pl ++ (w_Lw_ (ad_bc 102) ad_lw tC lw ++ (w_Ln_ (hL i0) (adL i0) tC S2 ++ T0))))))))) := hD
    refine W.eq (g2 := F0 m 739 ls [.int r, .int r]) rfl ?_
    refine lv_icmp_eq (tgt := 1006) hx hb d_L_law_739 (by decide) (fun _ => ?_) (fun c9 => absurd rfl c9)
    refine W.widen (k := C + 3) (n := S + 43) (by omega) (by omega) ?_
    have rs2 : RSs a2 nS SS := by rw [ha]; exact rs
    have pl2 : PL a2 pl md2 := hpl.move (by rw [ha]; rfl) (fun i hi => by rw [ha]; exact ⟨rfl, rfl, rfl⟩) (fun k _ _ => by rw [hm1]) (fun k h1 _ => hm2 k (by omega)) (fun k h1 _ => hm3 k (by omega))
    have ns2 : ns = a2.ns := by rw [hns, ha]; rfl
    have hP := pm_P (lf8 (t3 S2)) hP
    have hD := pm_D (lf8 (t3 S2)) hD
    exact K _ _ hS ⟨a2, ad_bc, ad_sg, ad_tr, ad_tu, ad_ff, ad_pl, ad_lw, ad_md, bc, sg, tr, tu, ff, pl, lw, md2, nl, hL, adL, aT, nT, (va_up LS i0 S2), TS, FP, hF, adF, FS, rf, ns, gS, aS, nS, SS, sh, hP, hD, hFX, ok2, rc2, rm2, rs2, pl2, ns2⟩
  · have e2 : f_Md_place md v1 v2 v3 v4 = some (0, md) := by
      unfold f_Md_place
      rw [e0m]
      rfl
    refine lv_aload_n hx hb d_L_law_597 rfl (lv_at hl 2 rfl) ?_
    refine lv_aload_n hx hb d_L_law_598 rfl (lv_at hl 3 rfl) ?_
    refine lv_iload_n hx hb d_L_law_599 rfl (lv_at hl 0 rfl) ?_
    refine lv_iconst (v := 1) hx hb d_L_law_600 (by decide) ?_
    refine lv_iadd hx hb d_L_law_601 ?_
    refine va_sld hx hb hX hbl hbA hS (i := i + 1) (hr 1 (by omega)) d_L_law_602 ?_
    refine rw_i (y := v1) hv1.symm ?_
    refine lv_aload_n hx hb d_L_law_603 rfl (lv_at hl 3 rfl) ?_
    refine lv_iload_n hx hb d_L_law_604 rfl (lv_at hl 0 rfl) ?_
    refine lv_iconst (v := 2) hx hb d_L_law_605 (by decide) ?_
    refine lv_iadd hx hb d_L_law_606 ?_
    refine va_sld hx hb hX hbl hbA hS (i := i + 2) (hr 2 (by omega)) d_L_law_607 ?_
    refine lv_i2l (v := (xs (i + 2).toNatClampNeg).toInt64) hx hb d_L_law_608 rfl ?_
    refine lv_bipush (v := 32) hx hb d_L_law_609 (by decide) ?_
    refine lv_lshl hx hb d_L_law_611 rfl ?_
    refine lv_aload_n hx hb d_L_law_612 rfl (lv_at hl 3 rfl) ?_
    refine lv_iload_n hx hb d_L_law_613 rfl (lv_at hl 0 rfl) ?_
    refine lv_iconst (v := 3) hx hb d_L_law_614 (by decide) ?_
    refine lv_iadd hx hb d_L_law_615 ?_
    refine va_sld hx hb hX hbl hbA hS (i := i + 3) (hr 3 (by omega)) d_L_law_616 ?_
    refine lv_i2l (v := (xs (i + 3).toNatClampNeg).toInt64) hx hb d_L_law_617 rfl ?_
    refine lv_ldc2 (v := 4294967295) hx hb hown (hts _ kK_L_23) d_L_law_618 ?_
    refine lv_land hx hb d_L_law_621 ?_
    refine lv_lor hx hb d_L_law_622 ?_
    refine rw_l (y := v2) hv2.symm ?_
    refine lv_aload_n hx hb d_L_law_623 rfl (lv_at hl 3 rfl) ?_
    refine lv_iload_n hx hb d_L_law_624 rfl (lv_at hl 0 rfl) ?_
    refine lv_iconst (v := 4) hx hb d_L_law_625 (by decide) ?_
    refine lv_iadd hx hb d_L_law_626 ?_
    refine va_sld hx hb hX hbl hbA hS (i := i + 4) (hr 4 (by omega)) d_L_law_627 ?_
    refine lv_i2l (v := (xs (i + 4).toNatClampNeg).toInt64) hx hb d_L_law_628 rfl ?_
    refine lv_bipush (v := 32) hx hb d_L_law_629 (by decide) ?_
    refine lv_lshl hx hb d_L_law_631 rfl ?_
    refine lv_aload_n hx hb d_L_law_632 rfl (lv_at hl 3 rfl) ?_
    refine lv_iload_n hx hb d_L_law_633 rfl (lv_at hl 0 rfl) ?_
    refine lv_iconst (v := 5) hx hb d_L_law_634 (by decide) ?_
    refine lv_iadd hx hb d_L_law_635 ?_
    refine va_sld hx hb hX hbl hbA hS (i := i + 5) (hr 5 (by omega)) d_L_law_636 ?_
    refine lv_i2l (v := (xs (i + 5).toNatClampNeg).toInt64) hx hb d_L_law_637 rfl ?_
    refine lv_ldc2 (v := 4294967295) hx hb hown (hts _ kK_L_23) d_L_law_638 ?_
    refine lv_land hx hb d_L_law_641 ?_
    refine lv_lor hx hb d_L_law_642 ?_
    refine rw_l (y := v3) hv3.symm ?_
    refine lv_aload_n hx hb d_L_law_643 rfl (lv_at hl 3 rfl) ?_
    refine lv_iload_n hx hb d_L_law_644 rfl (lv_at hl 0 rfl) ?_
    refine lv_bipush (v := 6) hx hb d_L_law_645 (by decide) ?_
    refine lv_iadd hx hb d_L_law_647 ?_
    refine va_sld hx hb hX hbl hbA hS (i := i + 6) (hr 6 (by omega)) d_L_law_648 ?_
    refine lv_i2l (v := (xs (i + 6).toNatClampNeg).toInt64) hx hb d_L_law_649 rfl ?_
    refine lv_bipush (v := 32) hx hb d_L_law_650 (by decide) ?_
    refine lv_lshl hx hb d_L_law_652 rfl ?_
    refine lv_aload_n hx hb d_L_law_653 rfl (lv_at hl 3 rfl) ?_
    refine lv_iload_n hx hb d_L_law_654 rfl (lv_at hl 0 rfl) ?_
    refine lv_bipush (v := 7) hx hb d_L_law_655 (by decide) ?_
    refine lv_iadd hx hb d_L_law_657 ?_
    refine va_sld hx hb hX hbl hbA hS (i := i + 7) (hr 7 (by omega)) d_L_law_658 ?_
    refine lv_i2l (v := (xs (i + 7).toNatClampNeg).toInt64) hx hb d_L_law_659 rfl ?_
    refine lv_ldc2 (v := 4294967295) hx hb hown (hts _ kK_L_23) d_L_law_660 ?_
    refine lv_land hx hb d_L_law_663 ?_
    refine lv_lor hx hb d_L_law_664 ?_
    refine rw_l (y := v4) hv4.symm ?_
    have hPc := va_P_in (w := (w_Bc_ q1 ad_bc tC rf bc ++ (w_Sg_ (ad_bc 100) ad_sg tC sg ++ (w_Tr_ (ad_bc 104) ad_tr tC tr ++ (w_Tr_ (ad_bc 105) ad_tu tC tu ++ (w_Ff_ (ad_bc 103) ad_ff tC ff ++ (w_Pl_ (ad_bc 101) ad_pl tC pl ++ (w_Lw_ (ad_bc 102) ad_lw tC lw ++ (TAL tC nl hL adL LS ns gS aS nS SS FP hF adF FS))))))))) hP (fun q h => List.mem_append_right _ h)
    have hDc : va_D (lA s) (w_Bc_ q1 ad_bc tC rf bc ++ (w_Sg_ (ad_bc 100) ad_sg tC sg ++ (w_Tr_ (ad_bc 104) ad_tr tC tr ++ (w_Tr_ (ad_bc 105) ad_tu tC tu ++ (w_Ff_ (ad_bc 103) ad_ff tC ff ++ (w_Pl_ (ad_bc 101) ad_pl tC pl ++ (w_Lw_ (ad_bc 102) ad_lw tC lw ++ (TAL tC nl hL adL LS ns gS aS nS SS FP hF adF FS)))))))) := D_r hD
    have hFc : ∀ q, va_A (w_Bc_ q1 ad_bc tC rf bc ++ (w_Sg_ (ad_bc 100) ad_sg tC sg ++ (w_Tr_ (ad_bc 104) ad_tr tC tr ++ (w_Tr_ (ad_bc 105) ad_tu tC tu ++ (w_Ff_ (ad_bc 103) ad_ff tC ff ++ (w_Pl_ (ad_bc 101) ad_pl tC pl ++ (w_Lw_ (ad_bc 102) ad_lw tC lw ++ (TAL tC nl hL adL LS ns gS aS nS SS FP hF adF FS)))))))) _ q → lA s q := va_freeAll hDc hS hA
    refine wr_go (va_runV (As := [.int v1, .long v2, .long v3, .long v4]) (rest := []) ⟨hx, hb, hml, hown, hts⟩ (m_Bc_place_n l dC dI tC (TAL tC nl hL adL LS ns gS aS nS SS FP hF adF FS) nl hL adL aT nT LS TS FP hF adF FS rf q1 ad_bc bc ad_sg sg ad_tr tr ad_tu tu ad_ff ff ad_pl pl ad_lw lw v1 v2 v3 v4 (0, bc, sg, tr, tu, ff, pl, lw) hFM e0 rfl _) (cwV 4 hts (gd_V kM_L_74 kI_Bc_place kV_Bc_place kZ_8 kC_Bc_place) rfl rfl rfl (by decide +kernel) ⟨(by decide +kernel), (by decide +kernel)⟩) ⟨wr_blind, va_recv hK hP (ci := 8) (q0 := 37) rfl rfl, wr_pre hK hPc hDc⟩ rfl rfl hl.1 rfl (lv_room (Nat.le_of_ble_eq_true rfl)) d_L_law_665 ⟨by show _ + 0 ≤ 637990; omega, by show _ + 0 ≤ 7188278; omega⟩) hS hFc (fun r w1 H1 locs hw hP1 hD1 hk1 hS => ?_)
    obtain ⟨rfl, rfl⟩ := hw
    obtain ⟨hP, hD⟩ := jn_A hP hD hk1 hFc hP1 hD1
    clear hP1 hD1 hk1 hPc hDc hFc
    have hP : va_P (dC, dI) vwCl (w_Md_ q2 ad_md tC md ++ (w_Bc_ q1 ad_bc tC rf bc ++ (w_Sg_ (ad_bc 100) ad_sg tC sg ++ (w_Tr_ (ad_bc 104) ad_tr tC tr ++ (w_Tr_ (ad_bc 105) ad_tu tC tu ++ (w_Ff_ (ad_bc 103) ad_ff tC ff ++ (w_Pl_ (ad_bc 101) ad_pl tC pl ++ (w_Lw_ (ad_bc 102) ad_lw tC lw ++ (TAL tC nl hL adL LS ns gS aS nS SS FP hF adF FS))))))))) _ := hP
    have hD : va_D (lA s) (w_Md_ q2 ad_md tC md ++ (w_Bc_ q1 ad_bc tC rf bc ++ (w_Sg_ (ad_bc 100) ad_sg tC sg ++ (w_Tr_ (ad_bc 104) ad_tr tC tr ++ (w_Tr_ (ad_bc 105) ad_tu tC tu ++ (w_Ff_ (ad_bc 103) ad_ff tC ff ++ (w_Pl_ (ad_bc 101) ad_pl tC pl ++ (w_Lw_ (ad_bc 102) ad_lw tC lw ++ (TAL tC nl hL adL LS ns gS aS nS SS FP hF adF FS))))))))) := hD
    refine W.eq (g2 := F0 m 668 ls [.int 0]) rfl ?_
    refine lv_aload_n hx hb d_L_law_668 rfl (lv_at hl 1 rfl) ?_
    refine lv_aload_n hx hb d_L_law_669 rfl (lv_at hl 3 rfl) ?_
    refine lv_iload_n hx hb d_L_law_670 rfl (lv_at hl 0 rfl) ?_
    refine lv_iconst (v := 1) hx hb d_L_law_671 (by decide) ?_
    refine lv_iadd hx hb d_L_law_672 ?_
    refine va_sld hx hb hX hbl hbA hS (i := i + 1) (hr 1 (by omega)) d_L_law_673 ?_
    refine rw_i (y := v1) hv1.symm ?_
    refine lv_aload_n hx hb d_L_law_674 rfl (lv_at hl 3 rfl) ?_
    refine lv_iload_n hx hb d_L_law_675 rfl (lv_at hl 0 rfl) ?_
    refine lv_iconst (v := 2) hx hb d_L_law_676 (by decide) ?_
    refine lv_iadd hx hb d_L_law_677 ?_
    refine va_sld hx hb hX hbl hbA hS (i := i + 2) (hr 2 (by omega)) d_L_law_678 ?_
    refine lv_i2l (v := (xs (i + 2).toNatClampNeg).toInt64) hx hb d_L_law_679 rfl ?_
    refine lv_bipush (v := 32) hx hb d_L_law_680 (by decide) ?_
    refine lv_lshl hx hb d_L_law_682 rfl ?_
    refine lv_aload_n hx hb d_L_law_683 rfl (lv_at hl 3 rfl) ?_
    refine lv_iload_n hx hb d_L_law_684 rfl (lv_at hl 0 rfl) ?_
    refine lv_iconst (v := 3) hx hb d_L_law_685 (by decide) ?_
    refine lv_iadd hx hb d_L_law_686 ?_
    refine va_sld hx hb hX hbl hbA hS (i := i + 3) (hr 3 (by omega)) d_L_law_687 ?_
    refine lv_i2l (v := (xs (i + 3).toNatClampNeg).toInt64) hx hb d_L_law_688 rfl ?_
    refine lv_ldc2 (v := 4294967295) hx hb hown (hts _ kK_L_23) d_L_law_689 ?_
    refine lv_land hx hb d_L_law_692 ?_
    refine lv_lor hx hb d_L_law_693 ?_
    refine rw_l (y := v2) hv2.symm ?_
    refine lv_aload_n hx hb d_L_law_694 rfl (lv_at hl 3 rfl) ?_
    refine lv_iload_n hx hb d_L_law_695 rfl (lv_at hl 0 rfl) ?_
    refine lv_iconst (v := 4) hx hb d_L_law_696 (by decide) ?_
    refine lv_iadd hx hb d_L_law_697 ?_
    refine va_sld hx hb hX hbl hbA hS (i := i + 4) (hr 4 (by omega)) d_L_law_698 ?_
    refine lv_i2l (v := (xs (i + 4).toNatClampNeg).toInt64) hx hb d_L_law_699 rfl ?_
    refine lv_bipush (v := 32) hx hb d_L_law_700 (by decide) ?_
    refine lv_lshl hx hb d_L_law_702 rfl ?_
    refine lv_aload_n hx hb d_L_law_703 rfl (lv_at hl 3 rfl) ?_
    refine lv_iload_n hx hb d_L_law_704 rfl (lv_at hl 0 rfl) ?_
    refine lv_iconst (v := 5) hx hb d_L_law_705 (by decide) ?_
    refine lv_iadd hx hb d_L_law_706 ?_
    refine va_sld hx hb hX hbl hbA hS (i := i + 5) (hr 5 (by omega)) d_L_law_707 ?_
    refine lv_i2l (v := (xs (i + 5).toNatClampNeg).toInt64) hx hb d_L_law_708 rfl ?_
    refine lv_ldc2 (v := 4294967295) hx hb hown (hts _ kK_L_23) d_L_law_709 ?_
    refine lv_land hx hb d_L_law_712 ?_
    refine lv_lor hx hb d_L_law_713 ?_
    refine rw_l (y := v3) hv3.symm ?_
    refine lv_aload_n hx hb d_L_law_714 rfl (lv_at hl 3 rfl) ?_
    refine lv_iload_n hx hb d_L_law_715 rfl (lv_at hl 0 rfl) ?_
    refine lv_bipush (v := 6) hx hb d_L_law_716 (by decide) ?_
    refine lv_iadd hx hb d_L_law_718 ?_
    refine va_sld hx hb hX hbl hbA hS (i := i + 6) (hr 6 (by omega)) d_L_law_719 ?_
    refine lv_i2l (v := (xs (i + 6).toNatClampNeg).toInt64) hx hb d_L_law_720 rfl ?_
    refine lv_bipush (v := 32) hx hb d_L_law_721 (by decide) ?_
    refine lv_lshl hx hb d_L_law_723 rfl ?_
    refine lv_aload_n hx hb d_L_law_724 rfl (lv_at hl 3 rfl) ?_
    refine lv_iload_n hx hb d_L_law_725 rfl (lv_at hl 0 rfl) ?_
    refine lv_bipush (v := 7) hx hb d_L_law_726 (by decide) ?_
    refine lv_iadd hx hb d_L_law_728 ?_
    refine va_sld hx hb hX hbl hbA hS (i := i + 7) (hr 7 (by omega)) d_L_law_729 ?_
    refine lv_i2l (v := (xs (i + 7).toNatClampNeg).toInt64) hx hb d_L_law_730 rfl ?_
    refine lv_ldc2 (v := 4294967295) hx hb hown (hts _ kK_L_23) d_L_law_731 ?_
    refine lv_land hx hb d_L_law_734 ?_
    refine lv_lor hx hb d_L_law_735 ?_
    refine rw_l (y := v4) hv4.symm ?_
    have hPx : va_P (dC, dI) vwCl (([] : va_W) ++ (w_Md_ q2 ad_md tC md ++ (w_Bc_ q1 ad_bc tC rf bc ++ (w_Sg_ (ad_bc 100) ad_sg tC sg ++ (w_Tr_ (ad_bc 104) ad_tr tC tr ++ (w_Tr_ (ad_bc 105) ad_tu tC tu ++ (w_Ff_ (ad_bc 103) ad_ff tC ff ++ (w_Pl_ (ad_bc 101) ad_pl tC pl ++ (w_Lw_ (ad_bc 102) ad_lw tC lw ++ (TAL tC nl hL adL LS ns gS aS nS SS FP hF adF FS)))))))))) _ := hP
    have hDx : va_D (lA s) (([] : va_W) ++ (w_Md_ q2 ad_md tC md ++ (w_Bc_ q1 ad_bc tC rf bc ++ (w_Sg_ (ad_bc 100) ad_sg tC sg ++ (w_Tr_ (ad_bc 104) ad_tr tC tr ++ (w_Tr_ (ad_bc 105) ad_tu tC tu ++ (w_Ff_ (ad_bc 103) ad_ff tC ff ++ (w_Pl_ (ad_bc 101) ad_pl tC pl ++ (w_Lw_ (ad_bc 102) ad_lw tC lw ++ (TAL tC nl hL adL LS ns gS aS nS SS FP hF adF FS)))))))))) := hD
    obtain ⟨hPc, hDc, hFc⟩ := bk_cut0 hPx hDx hS hA
    refine wr_go (va_runV (As := [.int v1, .long v2, .long v3, .long v4]) (rest := [.int 0]) ⟨hx, hb, hml, hown, hts⟩ (m_Md_place l dC dI tC q2 ad_md md v1 v2 v3 v4 (0, md) e2 _) (cwV 4 hts (gd_V kM_L_78 kI_Md_place kV_Md_place kZ_9 kC_Md_place) rfl rfl rfl (by decide +kernel) ⟨(by decide +kernel), (by decide +kernel)⟩) ⟨wr_blind, va_recv hK hP (ci := 9) (q0 := 0) rfl rfl, wr_pre hK hPc hDc⟩ rfl rfl hl.1 rfl (lv_room (Nat.le_of_ble_eq_true rfl)) d_L_law_736 ⟨by show _ + 0 ≤ 637990; omega, by show _ + 0 ≤ 7188278; omega⟩) hS hFc (fun r w1 H1 locs hw hP1 hD1 hk1 hS => ?_)
    obtain ⟨rfl, rfl⟩ := hw
    obtain ⟨hP, hD⟩ := bk_join0 (B1 := w_Md_ q2 ad_md tC md) hPx hDx hk1 hP1 rfl
    clear hP1 hD1 hk1 hPc hDc hFc hPx hDx
    have hP : va_P (dC, dI) vwCl (w_Md_ q2 ad_md tC md ++ (w_Bc_ q1 ad_bc tC rf bc ++ (w_Sg_ (ad_bc 100) ad_sg tC sg ++ (w_Tr_ (ad_bc 104) ad_tr tC tr ++ (w_Tr_ (ad_bc 105) ad_tu tC tu ++ (w_Ff_ (ad_bc 103) ad_ff tC ff ++ (w_Pl_ (ad_bc 101) ad_pl tC pl ++ (w_Lw_ (ad_bc 102) ad_lw tC lw ++ (TAL tC nl hL adL LS ns gS aS nS SS FP hF adF FS))))))))) _ := hP
    have hD : va_D (lA s) (w_Md_ q2 ad_md tC md ++ (w_Bc_ q1 ad_bc tC rf bc ++ (w_Sg_ (ad_bc 100) ad_sg tC sg ++ (w_Tr_ (ad_bc 104) ad_tr tC tr ++ (w_Tr_ (ad_bc 105) ad_tu tC tu ++ (w_Ff_ (ad_bc 103) ad_ff tC ff ++ (w_Pl_ (ad_bc 101) ad_pl tC pl ++ (w_Lw_ (ad_bc 102) ad_lw tC lw ++ (TAL tC nl hL adL LS ns gS aS nS SS FP hF adF FS))))))))) := hD
    refine W.eq (g2 := F0 m 739 ls [.int 0, .int 0]) rfl ?_
    refine lv_icmp_eq (tgt := 1006) hx hb d_L_law_739 (by decide) (fun _ => ?_) (fun c9 => absurd rfl c9)
    refine W.widen (k := C + 3) (n := S + 43) (by omega) (by omega) ?_
    exact K _ _ hS ⟨a, ad_bc, ad_sg, ad_tr, ad_tu, ad_ff, ad_pl, ad_lw, ad_md, bc, sg, tr, tu, ff, pl, lw, md, nl, hL, adL, aT, nT, LS, TS, FP, hF, adF, FS, rf, ns, gS, aS, nS, SS, sh, hP, hD, hFX, ok, rc, rm, rs, hpl, hns⟩
set_option maxHeartbeats 4000000 in
set_option maxRecDepth 100000 in
theorem law_6 {p : Program} {l : Launch} {e : Env} {s : State} {m : MethodId} {b L : Nat} {xs : Nat → Int32} {below : List Frame} {meth : Method} {c : Code} {Q : State → Prop} {dC : Nat → ClassId} {dI : Nat → Nat → Nat} {tC : Nat → ClassId} {q1 q2 : Nat} (h0 : LH p s m c b L xs dC dI tC) {H : Heap} {locs : List Loc} (hS : va_S (lA s) s.heap H locs) (hi : LInv s dC dI tC q1 q2 H) {i : Int32} (hr : ∀ k : Nat, k < 8 → vp_in (i + Int32.ofNat k) L) {C S : Nat} (hC : C + 3 ≤ 637990) (hC2 : S + 43 ≤ 7188278) {ls : Array Slot} (hl : lv_has ls 4 [(3, .int i), (2, .ref q2), (1, .ref q1), (0, .ref b)]) (K : ∀ (H : Heap) (locs : List Loc), va_S (lA s) s.heap H locs → LInv s dC dI tC q1 q2 H → W p l e room_1 s m #[Value.ref b] below meth c H locs (C + 3) (S + 43) Q (F0 m 1006 ls [])) : W p l e room_1 s m #[Value.ref b] below meth c H locs C S Q (F0 m 377 ls []) := by
  obtain ⟨hx, hb, hml, hown, hts, hX, hbl, hK, hN⟩ := h0
  have hA : ∀ q : Nat, s.heap.size ≤ q → lA s q := fun _ h => h
  have hbA : ¬ lA s b := Nat.not_le.mpr hbl
  obtain ⟨a, ad_bc, ad_sg, ad_tr, ad_tu, ad_ff, ad_pl, ad_lw, ad_md, bc, sg, tr, tu, ff, pl, lw, md, nl, hL, adL, aT, nT, LS, TS, FP, hF, adF, FS, rf, ns, gS, aS, nS, SS, sh, hP, hD, hFX, ok, rc, rm, rs, hpl, hns⟩ := hi
  have hFM : FM tC (TAL tC nl hL adL LS ns gS aS nS SS FP hF adF FS) nl hL adL aT nT LS TS FP hF adF FS rf := hFX.fm (fun _ h => h)
  obtain ⟨v1, hv1⟩ : ∃ z : Int32, z = (xs (i + 1).toNatClampNeg) := ⟨_, rfl⟩
  obtain ⟨v2, hv2⟩ : ∃ z : Int64, z = (((xs (i + 2).toNatClampNeg).toInt64 <<< ((32 : Int32).toInt64 &&& 63)) ||| ((xs (i + 3).toNatClampNeg).toInt64 &&& 4294967295)) := ⟨_, rfl⟩
  obtain ⟨v3, hv3⟩ : ∃ z : Int32, z = (xs (i + 4).toNatClampNeg) := ⟨_, rfl⟩
  by_cases hFp : FP ((v1 - 4).toNatClampNeg) = true
  · obtain ⟨d0, hd0⟩ : ∃ z, z = (v1 - 4).toNatClampNeg := ⟨_, rfl⟩
    rw [← hd0] at hFp
    obtain ⟨T0, t1, t3⟩ := cut_shelf (tC := tC) (nl := nl) (hL := hL) (adL := adL) (LS := LS) (ns := ns) (gS := gS) (aS := aS) (nS := nS) (SS := SS) (hF := hF) (adF := adF) (FS := FS) (hFX.2.2.2.1 d0 hFp).1 hFp
    obtain ⟨r, pl2, md2, a2, S2, e1, e2, ok2, rc2, rm2, hn1, hn2, hn3, hd⟩ := x_stock_i (tr := tr) (tu := tu) (ff := ff) (pl := pl) (lw := lw) ok rc rm v1 v2 v3 hd0.symm hFp
    have hFM2 : FM tC (w_Sf_ (hF d0) (adF d0) tC (FS d0) ++ T0) nl hL adL aT nT LS TS FP hF adF FS rf := hFX.fm (fun q h => t1.mem_iff.mp h)
    have hP := pm_P (lf8 (t1.symm)) hP
    have hD := pm_D (lf8 (t1.symm)) hD
    have hP : va_P (dC, dI) vwCl (w_Md_ q2 ad_md tC md ++ (w_Bc_ q1 ad_bc tC rf bc ++ (w_Sg_ (ad_bc 100) ad_sg tC sg ++ (w_Tr_ (ad_bc 104) ad_tr tC tr ++ (w_Tr_ (ad_bc 105) ad_tu tC tu ++ (w_Ff_ (ad_bc 103) ad_ff tC ff ++ (w_Pl_ (ad_bc 101) ad_pl tC pl ++ (w_Lw_ (ad_bc 102) ad_lw tC lw ++ (w_Sf_ (hF d0) (adF d0) tC (FS d0) ++ T0))))))))) _ := hP
    have hD : va_D (lA s) (w_Md_ q2 ad_md tC md ++ (w_Bc_ q1 ad_bc tC rf bc ++ (w_Sg_ (ad_bc 100) ad_sg tC sg ++ (w_Tr_ (ad_bc 104) ad_tr tC tr ++ (w_Tr_ (ad_bc 105) ad_tu tC tu ++ (w_Ff_ (ad_bc 103) ad_ff tC ff ++ (w_Pl_ (ad_bc 101) ad_pl tC pl ++ (w_Lw_ (ad_bc 102) ad_lw tC lw ++ (w_Sf_ (hF d0) (adF d0) tC (FS d0) ++ T0))))))))) := hD
    refine lv_aload_n hx hb d_L_law_377 rfl (lv_at hl 2 rfl) ?_
    refine lv_aload_n hx hb d_L_law_378 rfl (lv_at hl 3 rfl) ?_
    refine lv_iload_n hx hb d_L_law_379 rfl (lv_at hl 0 rfl) ?_
    refine lv_iconst (v := 1) hx hb d_L_law_380 (by decide) ?_
    refine lv_iadd hx hb d_L_law_381 ?_
    refine va_sld hx hb hX hbl hbA hS (i := i + 1) (hr 1 (by omega)) d_L_law_382 ?_
    refine rw_i (y := v1) hv1.symm ?_
    refine lv_aload_n hx hb d_L_law_383 rfl (lv_at hl 3 rfl) ?_
    refine lv_iload_n hx hb d_L_law_384 rfl (lv_at hl 0 rfl) ?_
    refine lv_iconst (v := 2) hx hb d_L_law_385 (by decide) ?_
    refine lv_iadd hx hb d_L_law_386 ?_
    refine va_sld hx hb hX hbl hbA hS (i := i + 2) (hr 2 (by omega)) d_L_law_387 ?_
    refine lv_i2l (v := (xs (i + 2).toNatClampNeg).toInt64) hx hb d_L_law_388 rfl ?_
    refine lv_bipush (v := 32) hx hb d_L_law_389 (by decide) ?_
    refine lv_lshl hx hb d_L_law_391 rfl ?_
    refine lv_aload_n hx hb d_L_law_392 rfl (lv_at hl 3 rfl) ?_
    refine lv_iload_n hx hb d_L_law_393 rfl (lv_at hl 0 rfl) ?_
    refine lv_iconst (v := 3) hx hb d_L_law_394 (by decide) ?_
    refine lv_iadd hx hb d_L_law_395 ?_
    refine va_sld hx hb hX hbl hbA hS (i := i + 3) (hr 3 (by omega)) d_L_law_396 ?_
    refine lv_i2l (v := (xs (i + 3).toNatClampNeg).toInt64) hx hb d_L_law_397 rfl ?_
    refine lv_ldc2 (v := 4294967295) hx hb hown (hts _ kK_L_23) d_L_law_398 ?_
    refine lv_land hx hb d_L_law_401 ?_
    refine lv_lor hx hb d_L_law_402 ?_
    refine rw_l (y := v2) hv2.symm ?_
    refine lv_aload_n hx hb d_L_law_403 rfl (lv_at hl 3 rfl) ?_
    refine lv_iload_n hx hb d_L_law_404 rfl (lv_at hl 0 rfl) ?_
    refine lv_iconst (v := 4) hx hb d_L_law_405 (by decide) ?_
    refine lv_iadd hx hb d_L_law_406 ?_
    refine va_sld hx hb hX hbl hbA hS (i := i + 4) (hr 4 (by omega)) d_L_law_407 ?_
    refine rw_i (y := v3) hv3.symm ?_
    have hPc := va_P_in (w := (w_Bc_ q1 ad_bc tC rf bc ++ (w_Sg_ (ad_bc 100) ad_sg tC sg ++ (w_Tr_ (ad_bc 104) ad_tr tC tr ++ (w_Tr_ (ad_bc 105) ad_tu tC tu ++ (w_Ff_ (ad_bc 103) ad_ff tC ff ++ (w_Pl_ (ad_bc 101) ad_pl tC pl ++ (w_Lw_ (ad_bc 102) ad_lw tC lw ++ (w_Sf_ (hF d0) (adF d0) tC (FS d0) ++ T0))))))))) hP (fun q h => List.mem_append_right _ h)
    have hDc : va_D (lA s) (w_Bc_ q1 ad_bc tC rf bc ++ (w_Sg_ (ad_bc 100) ad_sg tC sg ++ (w_Tr_ (ad_bc 104) ad_tr tC tr ++ (w_Tr_ (ad_bc 105) ad_tu tC tu ++ (w_Ff_ (ad_bc 103) ad_ff tC ff ++ (w_Pl_ (ad_bc 101) ad_pl tC pl ++ (w_Lw_ (ad_bc 102) ad_lw tC lw ++ (w_Sf_ (hF d0) (adF d0) tC (FS d0) ++ T0)))))))) := D_r hD
    have hFc : ∀ q, va_A (w_Bc_ q1 ad_bc tC rf bc ++ (w_Sg_ (ad_bc 100) ad_sg tC sg ++ (w_Tr_ (ad_bc 104) ad_tr tC tr ++ (w_Tr_ (ad_bc 105) ad_tu tC tu ++ (w_Ff_ (ad_bc 103) ad_ff tC ff ++ (w_Pl_ (ad_bc 101) ad_pl tC pl ++ (w_Lw_ (ad_bc 102) ad_lw tC lw ++ (w_Sf_ (hF d0) (adF d0) tC (FS d0) ++ T0)))))))) _ q → lA s q := va_freeAll hDc hS hA
    refine wr_go (va_runV (As := [.int v1, .long v2, .int v3]) (rest := []) ⟨hx, hb, hml, hown, hts⟩ (m_Bc_stock_i l dC dI tC T0 d0 nl hL adL aT nT LS TS FP hF adF FS rf q1 ad_bc bc ad_sg sg ad_tr tr ad_tu tu ad_ff ff ad_pl pl ad_lw lw v1 v2 v3 (r, bc, sg, tr, tu, ff, pl2, lw, S2) hFM2 ⟨hd0.symm, hFp⟩ e1 _) (cwV 3 hts (gd_V kM_L_45 kI_Bc_stock kV_Bc_stock kZ_8 kC_Bc_stock) rfl rfl rfl (by decide +kernel) ⟨(by decide +kernel), (by decide +kernel)⟩) ⟨wr_blind, va_recv hK hP (ci := 8) (q0 := 37) rfl rfl, wr_pre hK hPc hDc⟩ rfl rfl hl.1 rfl (lv_room (Nat.le_of_ble_eq_true rfl)) d_L_law_408 ⟨by show _ + 0 ≤ 637990; omega, by show _ + 0 ≤ 7188278; omega⟩) hS hFc (fun r w1 H1 locs hw hP1 hD1 hk1 hS => ?_)
    obtain ⟨rfl, rfl⟩ := hw
    obtain ⟨hP, hD⟩ := jn_A hP hD hk1 hFc hP1 hD1
    clear hP1 hD1 hk1 hPc hDc hFc
    have hP : va_P (dC, dI) vwCl (w_Md_ q2 ad_md tC md ++ (w_Bc_ q1 ad_bc tC rf bc ++ (w_Sg_ (ad_bc 100) ad_sg tC sg ++ (w_Tr_ (ad_bc 104) ad_tr tC tr ++ (w_Tr_ (ad_bc 105) ad_tu tC tu ++ (w_Ff_ (ad_bc 103) ad_ff tC ff ++ (w_Pl_ (ad_bc 101) ad_pl tC pl2 ++ (w_Lw_ (ad_bc 102) ad_lw tC lw ++ (w_Sf_ (hF d0) (adF d0) tC S2 ++ T0))))))))) _ := hP
    have hD : va_D (lA s) (w_Md_ q2 ad_md tC md ++ (w_Bc_ q1 ad_bc tC rf bc ++ (w_Sg_ (ad_bc 100) ad_sg tC sg ++ (w_Tr_ (ad_bc 104) ad_tr tC tr ++ (w_Tr_ (ad_bc 105) ad_tu tC tu ++ (w_Ff_ (ad_bc 103) ad_ff tC ff ++ (w_Pl_ (ad_bc 101) ad_pl tC pl2 ++ (w_Lw_ (ad_bc 102) ad_lw tC lw ++ (w_Sf_ (hF d0) (adF d0) tC S2 ++ T0))))))))) := hD
    refine W.eq (g2 := F0 m 411 ls [.int r]) rfl ?_
    refine lv_aload_n hx hb d_L_law_411 rfl (lv_at hl 1 rfl) ?_
    refine lv_aload_n hx hb d_L_law_412 rfl (lv_at hl 3 rfl) ?_
    refine lv_iload_n hx hb d_L_law_413 rfl (lv_at hl 0 rfl) ?_
    refine lv_iconst (v := 1) hx hb d_L_law_414 (by decide) ?_
    refine lv_iadd hx hb d_L_law_415 ?_
    refine va_sld hx hb hX hbl hbA hS (i := i + 1) (hr 1 (by omega)) d_L_law_416 ?_
    refine rw_i (y := v1) hv1.symm ?_
    refine lv_aload_n hx hb d_L_law_417 rfl (lv_at hl 3 rfl) ?_
    refine lv_iload_n hx hb d_L_law_418 rfl (lv_at hl 0 rfl) ?_
    refine lv_iconst (v := 2) hx hb d_L_law_419 (by decide) ?_
    refine lv_iadd hx hb d_L_law_420 ?_
    refine va_sld hx hb hX hbl hbA hS (i := i + 2) (hr 2 (by omega)) d_L_law_421 ?_
    refine lv_i2l (v := (xs (i + 2).toNatClampNeg).toInt64) hx hb d_L_law_422 rfl ?_
    refine lv_bipush (v := 32) hx hb d_L_law_423 (by decide) ?_
    refine lv_lshl hx hb d_L_law_425 rfl ?_
    refine lv_aload_n hx hb d_L_law_426 rfl (lv_at hl 3 rfl) ?_
    refine lv_iload_n hx hb d_L_law_427 rfl (lv_at hl 0 rfl) ?_
    refine lv_iconst (v := 3) hx hb d_L_law_428 (by decide) ?_
    refine lv_iadd hx hb d_L_law_429 ?_
    refine va_sld hx hb hX hbl hbA hS (i := i + 3) (hr 3 (by omega)) d_L_law_430 ?_
    refine lv_i2l (v := (xs (i + 3).toNatClampNeg).toInt64) hx hb d_L_law_431 rfl ?_
    refine lv_ldc2 (v := 4294967295) hx hb hown (hts _ kK_L_23) d_L_law_432 ?_
    refine lv_land hx hb d_L_law_435 ?_
    refine lv_lor hx hb d_L_law_436 ?_
    refine rw_l (y := v2) hv2.symm ?_
    refine lv_aload_n hx hb d_L_law_437 rfl (lv_at hl 3 rfl) ?_
    refine lv_iload_n hx hb d_L_law_438 rfl (lv_at hl 0 rfl) ?_
    refine lv_iconst (v := 4) hx hb d_L_law_439 (by decide) ?_
    refine lv_iadd hx hb d_L_law_440 ?_
    refine va_sld hx hb hX hbl hbA hS (i := i + 4) (hr 4 (by omega)) d_L_law_441 ?_
    refine rw_i (y := v3) hv3.symm ?_
    have hPx : va_P (dC, dI) vwCl (([] : va_W) ++ (w_Md_ q2 ad_md tC md ++ (w_Bc_ q1 ad_bc tC rf bc ++ (w_Sg_ (ad_bc 100) ad_sg tC sg ++ (w_Tr_ (ad_bc 104) ad_tr tC tr ++ (w_Tr_ (ad_bc 105) ad_tu tC tu ++ (w_Ff_ (ad_bc 103) ad_ff tC ff ++ (w_Pl_ (ad_bc 101) ad_pl tC pl2 ++ (w_Lw_ (ad_bc 102) ad_lw tC lw ++ (w_Sf_ (hF d0) (adF d0) tC S2 ++ T0)))))))))) _ := hP
    have hDx : va_D (lA s) (([] : va_W) ++ (w_Md_ q2 ad_md tC md ++ (w_Bc_ q1 ad_bc tC rf bc ++ (w_Sg_ (ad_bc 100) ad_sg tC sg ++ (w_Tr_ (ad_bc 104) ad_tr tC tr ++ (w_Tr_ (ad_bc 105) ad_tu tC tu ++ (w_Ff_ (ad_bc 103) ad_ff tC ff ++ (w_Pl_ (ad_bc 101) ad_pl tC pl2 ++ (w_Lw_ (ad_bc 102) ad_lw tC lw ++ (w_Sf_ (hF d0) (adF d0) tC S2 ++ T0)))))))))) := hD
    obtain ⟨hPc, hDc, hFc⟩ := bk_cut0 hPx hDx hS hA
    refine wr_go (va_runV (As := [.int v1, .long v2, .int v3]) (rest := [.int r]) ⟨hx, hb, hml, hown, hts⟩ (m_Md_stock l dC dI tC q2 ad_md md v1 v2 v3 (r, md2) e2 _) (cwV 3 hts (gd_V kM_L_49 kI_Md_stock kV_Md_stock kZ_9 kC_Md_stock) rfl rfl rfl (by decide +kernel) ⟨(by decide +kernel), (by decide +kernel)⟩) ⟨wr_blind, va_recv hK hP (ci := 9) (q0 := 0) rfl rfl, wr_pre hK hPc hDc⟩ rfl rfl hl.1 rfl (lv_room (Nat.le_of_ble_eq_true rfl)) d_L_law_442 ⟨by show _ + 0 ≤ 637990; omega, by show _ + 0 ≤ 7188278; omega⟩) hS hFc (fun r w1 H1 locs hw hP1 hD1 hk1 hS => ?_)
    obtain ⟨rfl, rfl⟩ := hw
    obtain ⟨hP, hD⟩ := bk_join0 (B1 := w_Md_ q2 ad_md tC md2) hPx hDx hk1 hP1 rfl
    clear hP1 hD1 hk1 hPc hDc hFc hPx hDx
    have hP : va_P (dC, dI) vwCl (w_Md_ q2 ad_md tC md2 ++ (w_Bc_ q1 ad_bc tC rf bc ++ (w_Sg_ (ad_bc 100) ad_sg tC sg ++ (w_Tr_ (ad_bc 104) ad_tr tC tr ++ (w_Tr_ (ad_bc 105) ad_tu tC tu ++ (w_Ff_ (ad_bc 103) ad_ff tC ff ++ (w_Pl_ (ad_bc 101) ad_pl tC pl2 ++ (w_Lw_ (ad_bc 102) ad_lw tC lw ++ (w_Sf_ (hF d0) (adF d0) tC S2 ++ T0))))))))) _ := hP
    have hD : va_D (lA s) (w_Md_ q2 ad_md tC md2 ++ (w_Bc_ q1 ad_bc tC rf bc ++ (w_Sg_ (ad_bc 100) ad_sg tC sg ++ (w_Tr_ (ad_bc 104) ad_tr tC tr ++ (w_Tr_ (ad_bc 105) ad_tu tC tu ++ (w_Ff_ (ad_bc 103) ad_ff tC ff ++ (w_Pl_ (ad_bc 101) ad_pl tC pl2 ++ (w_Lw_ (ad_bc 102) ad_lw tC lw ++ (w_Sf_ (hF d0) (adF d0) tC S2 ++ T0))))))))) := hD
    refine W.eq (g2 := F0 m 445 ls [.int r, .int r]) rfl ?_
    refine lv_icmp_eq (tgt := 1006) hx hb d_L_law_445 (by decide) (fun _ => ?_) (fun c9 => absurd rfl c9)
    refine W.widen (k := C + 3) (n := S + 43) (by omega) (by omega) ?_
    have hpl2 : PL a2 pl2 md2 := hd.elim (fun h => by rw [h.1, h.2.1, h.2.2.1]; exact hpl) (fun h => Or.inl h)
    have hP := pm_P (lf8 (t3 S2)) hP
    have hD := pm_D (lf8 (t3 S2)) hD
    exact K _ _ hS ⟨a2, ad_bc, ad_sg, ad_tr, ad_tu, ad_ff, ad_pl, ad_lw, ad_md, bc, sg, tr, tu, ff, pl2, lw, md2, nl, hL, adL, aT, nT, LS, TS, FP, hF, adF, (va_up FS d0 S2), rf, ns, gS, aS, nS, SS, sh, hP, hD, hFX, ok2, rc2, rm2, (fun j hj => by have h9 := rs j (by rw [← hn1]; exact hj); rw [hn2, hn3]; exact h9), hpl2, (by rw [hns, hn1])⟩
  · have hFn : FP ((v1 - 4).toNatClampNeg) = false := Bool.eq_false_iff.mpr hFp
    obtain ⟨r, pl2, md2, a2, o, e1, e2, hd⟩ := x_stock_n (tr := tr) (tu := tu) (ff := ff) (pl := pl) (lw := lw) ok rc rm v1 v2 v3 hFn
    rcases hd with ⟨ho, h1, h2, h3⟩ | ⟨S2, ho, hd37, ok2, rc2, rm2, hn1, hn2, hn3, hp1, hp2⟩
    · rw [ho, h1] at e1
      rw [h2] at e2
      refine lv_aload_n hx hb d_L_law_377 rfl (lv_at hl 2 rfl) ?_
      refine lv_aload_n hx hb d_L_law_378 rfl (lv_at hl 3 rfl) ?_
      refine lv_iload_n hx hb d_L_law_379 rfl (lv_at hl 0 rfl) ?_
      refine lv_iconst (v := 1) hx hb d_L_law_380 (by decide) ?_
      refine lv_iadd hx hb d_L_law_381 ?_
      refine va_sld hx hb hX hbl hbA hS (i := i + 1) (hr 1 (by omega)) d_L_law_382 ?_
      refine rw_i (y := v1) hv1.symm ?_
      refine lv_aload_n hx hb d_L_law_383 rfl (lv_at hl 3 rfl) ?_
      refine lv_iload_n hx hb d_L_law_384 rfl (lv_at hl 0 rfl) ?_
      refine lv_iconst (v := 2) hx hb d_L_law_385 (by decide) ?_
      refine lv_iadd hx hb d_L_law_386 ?_
      refine va_sld hx hb hX hbl hbA hS (i := i + 2) (hr 2 (by omega)) d_L_law_387 ?_
      refine lv_i2l (v := (xs (i + 2).toNatClampNeg).toInt64) hx hb d_L_law_388 rfl ?_
      refine lv_bipush (v := 32) hx hb d_L_law_389 (by decide) ?_
      refine lv_lshl hx hb d_L_law_391 rfl ?_
      refine lv_aload_n hx hb d_L_law_392 rfl (lv_at hl 3 rfl) ?_
      refine lv_iload_n hx hb d_L_law_393 rfl (lv_at hl 0 rfl) ?_
      refine lv_iconst (v := 3) hx hb d_L_law_394 (by decide) ?_
      refine lv_iadd hx hb d_L_law_395 ?_
      refine va_sld hx hb hX hbl hbA hS (i := i + 3) (hr 3 (by omega)) d_L_law_396 ?_
      refine lv_i2l (v := (xs (i + 3).toNatClampNeg).toInt64) hx hb d_L_law_397 rfl ?_
      refine lv_ldc2 (v := 4294967295) hx hb hown (hts _ kK_L_23) d_L_law_398 ?_
      refine lv_land hx hb d_L_law_401 ?_
      refine lv_lor hx hb d_L_law_402 ?_
      refine rw_l (y := v2) hv2.symm ?_
      refine lv_aload_n hx hb d_L_law_403 rfl (lv_at hl 3 rfl) ?_
      refine lv_iload_n hx hb d_L_law_404 rfl (lv_at hl 0 rfl) ?_
      refine lv_iconst (v := 4) hx hb d_L_law_405 (by decide) ?_
      refine lv_iadd hx hb d_L_law_406 ?_
      refine va_sld hx hb hX hbl hbA hS (i := i + 4) (hr 4 (by omega)) d_L_law_407 ?_
      refine rw_i (y := v3) hv3.symm ?_
      have hPc := va_P_in (w := (w_Bc_ q1 ad_bc tC rf bc ++ (w_Sg_ (ad_bc 100) ad_sg tC sg ++ (w_Tr_ (ad_bc 104) ad_tr tC tr ++ (w_Tr_ (ad_bc 105) ad_tu tC tu ++ (w_Ff_ (ad_bc 103) ad_ff tC ff ++ (w_Pl_ (ad_bc 101) ad_pl tC pl ++ (w_Lw_ (ad_bc 102) ad_lw tC lw ++ (TAL tC nl hL adL LS ns gS aS nS SS FP hF adF FS))))))))) hP (fun q h => List.mem_append_right _ h)
      have hDc : va_D (lA s) (w_Bc_ q1 ad_bc tC rf bc ++ (w_Sg_ (ad_bc 100) ad_sg tC sg ++ (w_Tr_ (ad_bc 104) ad_tr tC tr ++ (w_Tr_ (ad_bc 105) ad_tu tC tu ++ (w_Ff_ (ad_bc 103) ad_ff tC ff ++ (w_Pl_ (ad_bc 101) ad_pl tC pl ++ (w_Lw_ (ad_bc 102) ad_lw tC lw ++ (TAL tC nl hL adL LS ns gS aS nS SS FP hF adF FS)))))))) := D_r hD
      have hFc : ∀ q, va_A (w_Bc_ q1 ad_bc tC rf bc ++ (w_Sg_ (ad_bc 100) ad_sg tC sg ++ (w_Tr_ (ad_bc 104) ad_tr tC tr ++ (w_Tr_ (ad_bc 105) ad_tu tC tu ++ (w_Ff_ (ad_bc 103) ad_ff tC ff ++ (w_Pl_ (ad_bc 101) ad_pl tC pl ++ (w_Lw_ (ad_bc 102) ad_lw tC lw ++ (TAL tC nl hL adL LS ns gS aS nS SS FP hF adF FS)))))))) _ q → lA s q := va_freeAll hDc hS hA
      refine wr_go (va_runV (As := [.int v1, .long v2, .int v3]) (rest := []) ⟨hx, hb, hml, hown, hts⟩ (m_Bc_stock_n l dC dI tC (TAL tC nl hL adL LS ns gS aS nS SS FP hF adF FS) nl hL adL aT nT LS TS FP hF adF FS rf q1 ad_bc bc ad_sg sg ad_tr tr ad_tu tu ad_ff ff ad_pl pl ad_lw lw v1 v2 v3 (r, bc, sg, tr, tu, ff, pl, lw, none) hFM hFn e1 _) (cwV 3 hts (gd_V kM_L_45 kI_Bc_stock kV_Bc_stock kZ_8 kC_Bc_stock) rfl rfl rfl (by decide +kernel) ⟨(by decide +kernel), (by decide +kernel)⟩) ⟨wrN_blind, va_recv hK hP (ci := 8) (q0 := 37) rfl rfl, (fun U hU hW => ⟨wr_pre hK hPc hDc U hU hW, NX.warm hW hN⟩)⟩ rfl rfl hl.1 rfl (lv_room (Nat.le_of_ble_eq_true rfl)) d_L_law_408 ⟨by show _ + 3 ≤ 637990; omega, by show _ + 9 ≤ 7188278; omega⟩) hS hFc (fun r w1 H1 locs hw hP1 hD1 hk1 hS => ?_)
      obtain ⟨rfl, hw⟩ := hw
      have hw := hw.resolve_right (fun ⟨x9, h9, _⟩ => by cases h9)
      obtain ⟨-, rfl⟩ := hw
      obtain ⟨hP, hD⟩ := jn_A hP hD hk1 hFc hP1 hD1
      clear hP1 hD1 hk1 hPc hDc hFc
      have hP : va_P (dC, dI) vwCl (w_Md_ q2 ad_md tC md ++ (w_Bc_ q1 ad_bc tC rf bc ++ (w_Sg_ (ad_bc 100) ad_sg tC sg ++ (w_Tr_ (ad_bc 104) ad_tr tC tr ++ (w_Tr_ (ad_bc 105) ad_tu tC tu ++ (w_Ff_ (ad_bc 103) ad_ff tC ff ++ (w_Pl_ (ad_bc 101) ad_pl tC pl ++ (w_Lw_ (ad_bc 102) ad_lw tC lw ++ (TAL tC nl hL adL LS ns gS aS nS SS FP hF adF FS))))))))) _ := hP
      have hD : va_D (lA s) (w_Md_ q2 ad_md tC md ++ (w_Bc_ q1 ad_bc tC rf bc ++ (w_Sg_ (ad_bc 100) ad_sg tC sg ++ (w_Tr_ (ad_bc 104) ad_tr tC tr ++ (w_Tr_ (ad_bc 105) ad_tu tC tu ++ (w_Ff_ (ad_bc 103) ad_ff tC ff ++ (w_Pl_ (ad_bc 101) ad_pl tC pl ++ (w_Lw_ (ad_bc 102) ad_lw tC lw ++ (TAL tC nl hL adL LS ns gS aS nS SS FP hF adF FS))))))))) := hD
      refine W.eq (g2 := F0 m 411 ls [.int r]) rfl ?_
      refine lv_aload_n hx hb d_L_law_411 rfl (lv_at hl 1 rfl) ?_
      refine lv_aload_n hx hb d_L_law_412 rfl (lv_at hl 3 rfl) ?_
      refine lv_iload_n hx hb d_L_law_413 rfl (lv_at hl 0 rfl) ?_
      refine lv_iconst (v := 1) hx hb d_L_law_414 (by decide) ?_
      refine lv_iadd hx hb d_L_law_415 ?_
      refine va_sld hx hb hX hbl hbA hS (i := i + 1) (hr 1 (by omega)) d_L_law_416 ?_
      refine rw_i (y := v1) hv1.symm ?_
      refine lv_aload_n hx hb d_L_law_417 rfl (lv_at hl 3 rfl) ?_
      refine lv_iload_n hx hb d_L_law_418 rfl (lv_at hl 0 rfl) ?_
      refine lv_iconst (v := 2) hx hb d_L_law_419 (by decide) ?_
      refine lv_iadd hx hb d_L_law_420 ?_
      refine va_sld hx hb hX hbl hbA hS (i := i + 2) (hr 2 (by omega)) d_L_law_421 ?_
      refine lv_i2l (v := (xs (i + 2).toNatClampNeg).toInt64) hx hb d_L_law_422 rfl ?_
      refine lv_bipush (v := 32) hx hb d_L_law_423 (by decide) ?_
      refine lv_lshl hx hb d_L_law_425 rfl ?_
      refine lv_aload_n hx hb d_L_law_426 rfl (lv_at hl 3 rfl) ?_
      refine lv_iload_n hx hb d_L_law_427 rfl (lv_at hl 0 rfl) ?_
      refine lv_iconst (v := 3) hx hb d_L_law_428 (by decide) ?_
      refine lv_iadd hx hb d_L_law_429 ?_
      refine va_sld hx hb hX hbl hbA hS (i := i + 3) (hr 3 (by omega)) d_L_law_430 ?_
      refine lv_i2l (v := (xs (i + 3).toNatClampNeg).toInt64) hx hb d_L_law_431 rfl ?_
      refine lv_ldc2 (v := 4294967295) hx hb hown (hts _ kK_L_23) d_L_law_432 ?_
      refine lv_land hx hb d_L_law_435 ?_
      refine lv_lor hx hb d_L_law_436 ?_
      refine rw_l (y := v2) hv2.symm ?_
      refine lv_aload_n hx hb d_L_law_437 rfl (lv_at hl 3 rfl) ?_
      refine lv_iload_n hx hb d_L_law_438 rfl (lv_at hl 0 rfl) ?_
      refine lv_iconst (v := 4) hx hb d_L_law_439 (by decide) ?_
      refine lv_iadd hx hb d_L_law_440 ?_
      refine va_sld hx hb hX hbl hbA hS (i := i + 4) (hr 4 (by omega)) d_L_law_441 ?_
      refine rw_i (y := v3) hv3.symm ?_
      have hPx : va_P (dC, dI) vwCl (([] : va_W) ++ (w_Md_ q2 ad_md tC md ++ (w_Bc_ q1 ad_bc tC rf bc ++ (w_Sg_ (ad_bc 100) ad_sg tC sg ++ (w_Tr_ (ad_bc 104) ad_tr tC tr ++ (w_Tr_ (ad_bc 105) ad_tu tC tu ++ (w_Ff_ (ad_bc 103) ad_ff tC ff ++ (w_Pl_ (ad_bc 101) ad_pl tC pl ++ (w_Lw_ (ad_bc 102) ad_lw tC lw ++ (TAL tC nl hL adL LS ns gS aS nS SS FP hF adF FS)))))))))) _ := hP
      have hDx : va_D (lA s) (([] : va_W) ++ (w_Md_ q2 ad_md tC md ++ (w_Bc_ q1 ad_bc tC rf bc ++ (w_Sg_ (ad_bc 100) ad_sg tC sg ++ (w_Tr_ (ad_bc 104) ad_tr tC tr ++ (w_Tr_ (ad_bc 105) ad_tu tC tu ++ (w_Ff_ (ad_bc 103) ad_ff tC ff ++ (w_Pl_ (ad_bc 101) ad_pl tC pl ++ (w_Lw_ (ad_bc 102) ad_lw tC lw ++ (TAL tC nl hL adL LS ns gS aS nS SS FP hF adF FS)))))))))) := hD
      obtain ⟨hPc, hDc, hFc⟩ := bk_cut0 hPx hDx hS hA
      refine wr_go (va_runV (As := [.int v1, .long v2, .int v3]) (rest := [.int r]) ⟨hx, hb, hml, hown, hts⟩ (m_Md_stock l dC dI tC q2 ad_md md v1 v2 v3 (r, md) e2 _) (cwV 3 hts (gd_V kM_L_49 kI_Md_stock kV_Md_stock kZ_9 kC_Md_stock) rfl rfl rfl (by decide +kernel) ⟨(by decide +kernel), (by decide +kernel)⟩) ⟨wr_blind, va_recv hK hP (ci := 9) (q0 := 0) rfl rfl, wr_pre hK hPc hDc⟩ rfl rfl hl.1 rfl (lv_room (Nat.le_of_ble_eq_true rfl)) d_L_law_442 ⟨by show _ + 0 ≤ 637990; omega, by show _ + 0 ≤ 7188278; omega⟩) hS hFc (fun r w1 H1 locs hw hP1 hD1 hk1 hS => ?_)
      obtain ⟨rfl, rfl⟩ := hw
      obtain ⟨hP, hD⟩ := bk_join0 (B1 := w_Md_ q2 ad_md tC md) hPx hDx hk1 hP1 rfl
      clear hP1 hD1 hk1 hPc hDc hFc hPx hDx
      have hP : va_P (dC, dI) vwCl (w_Md_ q2 ad_md tC md ++ (w_Bc_ q1 ad_bc tC rf bc ++ (w_Sg_ (ad_bc 100) ad_sg tC sg ++ (w_Tr_ (ad_bc 104) ad_tr tC tr ++ (w_Tr_ (ad_bc 105) ad_tu tC tu ++ (w_Ff_ (ad_bc 103) ad_ff tC ff ++ (w_Pl_ (ad_bc 101) ad_pl tC pl ++ (w_Lw_ (ad_bc 102) ad_lw tC lw ++ (TAL tC nl hL adL LS ns gS aS nS SS FP hF adF FS))))))))) _ := hP
      have hD : va_D (lA s) (w_Md_ q2 ad_md tC md ++ (w_Bc_ q1 ad_bc tC rf bc ++ (w_Sg_ (ad_bc 100) ad_sg tC sg ++ (w_Tr_ (ad_bc 104) ad_tr tC tr ++ (w_Tr_ (ad_bc 105) ad_tu tC tu ++ (w_Ff_ (ad_bc 103) ad_ff tC ff ++ (w_Pl_ (ad_bc 101) ad_pl tC pl ++ (w_Lw_ (ad_bc 102) ad_lw tC lw ++ (TAL tC nl hL adL LS ns gS aS nS SS FP hF adF FS))))))))) := hD
      refine W.eq (g2 := F0 m 445 ls [.int r, .int r]) rfl ?_
      refine lv_icmp_eq (tgt := 1006) hx hb d_L_law_445 (by decide) (fun _ => ?_) (fun c9 => absurd rfl c9)
      refine W.widen (k := C + 3) (n := S + 43) (by omega) (by omega) ?_
      exact K _ _ hS ⟨a, ad_bc, ad_sg, ad_tr, ad_tu, ad_ff, ad_pl, ad_lw, ad_md, bc, sg, tr, tu, ff, pl, lw, md, nl, hL, adL, aT, nT, LS, TS, FP, hF, adF, FS, rf, ns, gS, aS, nS, SS, sh, hP, hD, hFX, ok, rc, rm, rs, hpl, hns⟩
    · rw [ho] at e1
      refine lv_aload_n hx hb d_L_law_377 rfl (lv_at hl 2 rfl) ?_
      refine lv_aload_n hx hb d_L_law_378 rfl (lv_at hl 3 rfl) ?_
      refine lv_iload_n hx hb d_L_law_379 rfl (lv_at hl 0 rfl) ?_
      refine lv_iconst (v := 1) hx hb d_L_law_380 (by decide) ?_
      refine lv_iadd hx hb d_L_law_381 ?_
      refine va_sld hx hb hX hbl hbA hS (i := i + 1) (hr 1 (by omega)) d_L_law_382 ?_
      refine rw_i (y := v1) hv1.symm ?_
      refine lv_aload_n hx hb d_L_law_383 rfl (lv_at hl 3 rfl) ?_
      refine lv_iload_n hx hb d_L_law_384 rfl (lv_at hl 0 rfl) ?_
      refine lv_iconst (v := 2) hx hb d_L_law_385 (by decide) ?_
      refine lv_iadd hx hb d_L_law_386 ?_
      refine va_sld hx hb hX hbl hbA hS (i := i + 2) (hr 2 (by omega)) d_L_law_387 ?_
      refine lv_i2l (v := (xs (i + 2).toNatClampNeg).toInt64) hx hb d_L_law_388 rfl ?_
      refine lv_bipush (v := 32) hx hb d_L_law_389 (by decide) ?_
      refine lv_lshl hx hb d_L_law_391 rfl ?_
      refine lv_aload_n hx hb d_L_law_392 rfl (lv_at hl 3 rfl) ?_
      refine lv_iload_n hx hb d_L_law_393 rfl (lv_at hl 0 rfl) ?_
      refine lv_iconst (v := 3) hx hb d_L_law_394 (by decide) ?_
      refine lv_iadd hx hb d_L_law_395 ?_
      refine va_sld hx hb hX hbl hbA hS (i := i + 3) (hr 3 (by omega)) d_L_law_396 ?_
      refine lv_i2l (v := (xs (i + 3).toNatClampNeg).toInt64) hx hb d_L_law_397 rfl ?_
      refine lv_ldc2 (v := 4294967295) hx hb hown (hts _ kK_L_23) d_L_law_398 ?_
      refine lv_land hx hb d_L_law_401 ?_
      refine lv_lor hx hb d_L_law_402 ?_
      refine rw_l (y := v2) hv2.symm ?_
      refine lv_aload_n hx hb d_L_law_403 rfl (lv_at hl 3 rfl) ?_
      refine lv_iload_n hx hb d_L_law_404 rfl (lv_at hl 0 rfl) ?_
      refine lv_iconst (v := 4) hx hb d_L_law_405 (by decide) ?_
      refine lv_iadd hx hb d_L_law_406 ?_
      refine va_sld hx hb hX hbl hbA hS (i := i + 4) (hr 4 (by omega)) d_L_law_407 ?_
      refine rw_i (y := v3) hv3.symm ?_
      have hPc := va_P_in (w := (w_Bc_ q1 ad_bc tC rf bc ++ (w_Sg_ (ad_bc 100) ad_sg tC sg ++ (w_Tr_ (ad_bc 104) ad_tr tC tr ++ (w_Tr_ (ad_bc 105) ad_tu tC tu ++ (w_Ff_ (ad_bc 103) ad_ff tC ff ++ (w_Pl_ (ad_bc 101) ad_pl tC pl ++ (w_Lw_ (ad_bc 102) ad_lw tC lw ++ (TAL tC nl hL adL LS ns gS aS nS SS FP hF adF FS))))))))) hP (fun q h => List.mem_append_right _ h)
      have hDc : va_D (lA s) (w_Bc_ q1 ad_bc tC rf bc ++ (w_Sg_ (ad_bc 100) ad_sg tC sg ++ (w_Tr_ (ad_bc 104) ad_tr tC tr ++ (w_Tr_ (ad_bc 105) ad_tu tC tu ++ (w_Ff_ (ad_bc 103) ad_ff tC ff ++ (w_Pl_ (ad_bc 101) ad_pl tC pl ++ (w_Lw_ (ad_bc 102) ad_lw tC lw ++ (TAL tC nl hL adL LS ns gS aS nS SS FP hF adF FS)))))))) := D_r hD
      have hFc : ∀ q, va_A (w_Bc_ q1 ad_bc tC rf bc ++ (w_Sg_ (ad_bc 100) ad_sg tC sg ++ (w_Tr_ (ad_bc 104) ad_tr tC tr ++ (w_Tr_ (ad_bc 105) ad_tu tC tu ++ (w_Ff_ (ad_bc 103) ad_ff tC ff ++ (w_Pl_ (ad_bc 101) ad_pl tC pl ++ (w_Lw_ (ad_bc 102) ad_lw tC lw ++ (TAL tC nl hL adL LS ns gS aS nS SS FP hF adF FS)))))))) _ q → lA s q := va_freeAll hDc hS hA
      refine wr_go (va_runV (As := [.int v1, .long v2, .int v3]) (rest := []) ⟨hx, hb, hml, hown, hts⟩ (m_Bc_stock_n l dC dI tC (TAL tC nl hL adL LS ns gS aS nS SS FP hF adF FS) nl hL adL aT nT LS TS FP hF adF FS rf q1 ad_bc bc ad_sg sg ad_tr tr ad_tu tu ad_ff ff ad_pl pl ad_lw lw v1 v2 v3 (r, bc, sg, tr, tu, ff, pl2, lw, some S2) hFM hFn e1 _) (cwV 3 hts (gd_V kM_L_45 kI_Bc_stock kV_Bc_stock kZ_8 kC_Bc_stock) rfl rfl rfl (by decide +kernel) ⟨(by decide +kernel), (by decide +kernel)⟩) ⟨wrN_blind, va_recv hK hP (ci := 8) (q0 := 37) rfl rfl, (fun U hU hW => ⟨wr_pre hK hPc hDc U hU hW, NX.warm hW hN⟩)⟩ rfl rfl hl.1 rfl (lv_room (Nat.le_of_ble_eq_true rfl)) d_L_law_408 ⟨by show _ + 3 ≤ 637990; omega, by show _ + 9 ≤ 7188278; omega⟩) hS hFc (fun r w1 H1 locs hw hP1 hD1 hk1 hS => ?_)
      obtain ⟨rfl, hw⟩ := hw
      have hw := hw.resolve_left (fun h9 => by cases h9.1)
      obtain ⟨x9, h9, qn, an, rfl⟩ := hw
      have h9 : some S2 = some x9 := h9
      obtain rfl := Option.some.inj h9
      obtain ⟨hP, hD⟩ := jn_A hP hD hk1 hFc hP1 hD1
      clear hP1 hD1 hk1 hPc hDc hFc
      have hP : va_P (dC, dI) vwCl (w_Md_ q2 ad_md tC md ++ (w_Bc_ q1 ad_bc tC (va_up rf 2 (va_up (rf 2) ((v1 - 4).toNatClampNeg) (some qn))) bc ++ (w_Sg_ (ad_bc 100) ad_sg tC sg ++ (w_Tr_ (ad_bc 104) ad_tr tC tr ++ (w_Tr_ (ad_bc 105) ad_tu tC tu ++ (w_Ff_ (ad_bc 103) ad_ff tC ff ++ (w_Pl_ (ad_bc 101) ad_pl tC pl2 ++ (w_Lw_ (ad_bc 102) ad_lw tC lw ++ (w_Sf_ qn an tC S2 ++ (TAL tC nl hL adL LS ns gS aS nS SS FP hF adF FS)))))))))) _ := hP
      have hD : va_D (lA s) (w_Md_ q2 ad_md tC md ++ (w_Bc_ q1 ad_bc tC (va_up rf 2 (va_up (rf 2) ((v1 - 4).toNatClampNeg) (some qn))) bc ++ (w_Sg_ (ad_bc 100) ad_sg tC sg ++ (w_Tr_ (ad_bc 104) ad_tr tC tr ++ (w_Tr_ (ad_bc 105) ad_tu tC tu ++ (w_Ff_ (ad_bc 103) ad_ff tC ff ++ (w_Pl_ (ad_bc 101) ad_pl tC pl2 ++ (w_Lw_ (ad_bc 102) ad_lw tC lw ++ (w_Sf_ qn an tC S2 ++ (TAL tC nl hL adL LS ns gS aS nS SS FP hF adF FS)))))))))) := hD
      refine W.eq (g2 := F0 m 411 ls [.int r]) rfl ?_
      refine lv_aload_n hx hb d_L_law_411 rfl (lv_at hl 1 rfl) ?_
      refine lv_aload_n hx hb d_L_law_412 rfl (lv_at hl 3 rfl) ?_
      refine lv_iload_n hx hb d_L_law_413 rfl (lv_at hl 0 rfl) ?_
      refine lv_iconst (v := 1) hx hb d_L_law_414 (by decide) ?_
      refine lv_iadd hx hb d_L_law_415 ?_
      refine va_sld hx hb hX hbl hbA hS (i := i + 1) (hr 1 (by omega)) d_L_law_416 ?_
      refine rw_i (y := v1) hv1.symm ?_
      refine lv_aload_n hx hb d_L_law_417 rfl (lv_at hl 3 rfl) ?_
      refine lv_iload_n hx hb d_L_law_418 rfl (lv_at hl 0 rfl) ?_
      refine lv_iconst (v := 2) hx hb d_L_law_419 (by decide) ?_
      refine lv_iadd hx hb d_L_law_420 ?_
      refine va_sld hx hb hX hbl hbA hS (i := i + 2) (hr 2 (by omega)) d_L_law_421 ?_
      refine lv_i2l (v := (xs (i + 2).toNatClampNeg).toInt64) hx hb d_L_law_422 rfl ?_
      refine lv_bipush (v := 32) hx hb d_L_law_423 (by decide) ?_
      refine lv_lshl hx hb d_L_law_425 rfl ?_
      refine lv_aload_n hx hb d_L_law_426 rfl (lv_at hl 3 rfl) ?_
      refine lv_iload_n hx hb d_L_law_427 rfl (lv_at hl 0 rfl) ?_
      refine lv_iconst (v := 3) hx hb d_L_law_428 (by decide) ?_
      refine lv_iadd hx hb d_L_law_429 ?_
      refine va_sld hx hb hX hbl hbA hS (i := i + 3) (hr 3 (by omega)) d_L_law_430 ?_
      refine lv_i2l (v := (xs (i + 3).toNatClampNeg).toInt64) hx hb d_L_law_431 rfl ?_
      refine lv_ldc2 (v := 4294967295) hx hb hown (hts _ kK_L_23) d_L_law_432 ?_
      refine lv_land hx hb d_L_law_435 ?_
      refine lv_lor hx hb d_L_law_436 ?_
      refine rw_l (y := v2) hv2.symm ?_
      refine lv_aload_n hx hb d_L_law_437 rfl (lv_at hl 3 rfl) ?_
      refine lv_iload_n hx hb d_L_law_438 rfl (lv_at hl 0 rfl) ?_
      refine lv_iconst (v := 4) hx hb d_L_law_439 (by decide) ?_
      refine lv_iadd hx hb d_L_law_440 ?_
      refine va_sld hx hb hX hbl hbA hS (i := i + 4) (hr 4 (by omega)) d_L_law_441 ?_
      refine rw_i (y := v3) hv3.symm ?_
      have hPx : va_P (dC, dI) vwCl (([] : va_W) ++ (w_Md_ q2 ad_md tC md ++ (w_Bc_ q1 ad_bc tC (va_up rf 2 (va_up (rf 2) ((v1 - 4).toNatClampNeg) (some qn))) bc ++ (w_Sg_ (ad_bc 100) ad_sg tC sg ++ (w_Tr_ (ad_bc 104) ad_tr tC tr ++ (w_Tr_ (ad_bc 105) ad_tu tC tu ++ (w_Ff_ (ad_bc 103) ad_ff tC ff ++ (w_Pl_ (ad_bc 101) ad_pl tC pl2 ++ (w_Lw_ (ad_bc 102) ad_lw tC lw ++ (w_Sf_ qn an tC S2 ++ (TAL tC nl hL adL LS ns gS aS nS SS FP hF adF FS))))))))))) _ := hP
      have hDx : va_D (lA s) (([] : va_W) ++ (w_Md_ q2 ad_md tC md ++ (w_Bc_ q1 ad_bc tC (va_up rf 2 (va_up (rf 2) ((v1 - 4).toNatClampNeg) (some qn))) bc ++ (w_Sg_ (ad_bc 100) ad_sg tC sg ++ (w_Tr_ (ad_bc 104) ad_tr tC tr ++ (w_Tr_ (ad_bc 105) ad_tu tC tu ++ (w_Ff_ (ad_bc 103) ad_ff tC ff ++ (w_Pl_ (ad_bc 101) ad_pl tC pl2 ++ (w_Lw_ (ad_bc 102) ad_lw tC lw ++ (w_Sf_ qn an tC S2 ++ (TAL tC nl hL adL LS ns gS aS nS SS FP hF adF FS))))))))))) := hD
      obtain ⟨hPc, hDc, hFc⟩ := bk_cut0 hPx hDx hS hA
      refine wr_go (va_runV (As := [.int v1, .long v2, .int v3]) (rest := [.int r]) ⟨hx, hb, hml, hown, hts⟩ (m_Md_stock l dC dI tC q2 ad_md md v1 v2 v3 (r, md2) e2 _) (cwV 3 hts (gd_V kM_L_49 kI_Md_stock kV_Md_stock kZ_9 kC_Md_stock) rfl rfl rfl (by decide +kernel) ⟨(by decide +kernel), (by decide +kernel)⟩) ⟨wr_blind, va_recv hK hP (ci := 9) (q0 := 0) rfl rfl, wr_pre hK hPc hDc⟩ rfl rfl hl.1 rfl (lv_room (Nat.le_of_ble_eq_true rfl)) d_L_law_442 ⟨by show _ + 0 ≤ 637990; omega, by show _ + 0 ≤ 7188278; omega⟩) hS hFc (fun r w1 H1 locs hw hP1 hD1 hk1 hS => ?_)
      obtain ⟨rfl, rfl⟩ := hw
      obtain ⟨hP, hD⟩ := bk_join0 (B1 := w_Md_ q2 ad_md tC md2) hPx hDx hk1 hP1 rfl
      clear hP1 hD1 hk1 hPc hDc hFc hPx hDx
      have hP : va_P (dC, dI) vwCl (w_Md_ q2 ad_md tC md2 ++ (w_Bc_ q1 ad_bc tC (va_up rf 2 (va_up (rf 2) ((v1 - 4).toNatClampNeg) (some qn))) bc ++ (w_Sg_ (ad_bc 100) ad_sg tC sg ++ (w_Tr_ (ad_bc 104) ad_tr tC tr ++ (w_Tr_ (ad_bc 105) ad_tu tC tu ++ (w_Ff_ (ad_bc 103) ad_ff tC ff ++ (w_Pl_ (ad_bc 101) ad_pl tC pl2 ++ (w_Lw_ (ad_bc 102) ad_lw tC lw ++ (w_Sf_ qn an tC S2 ++ (TAL tC nl hL adL LS ns gS aS nS SS FP hF adF FS)))))))))) _ := hP
      have hD : va_D (lA s) (w_Md_ q2 ad_md tC md2 ++ (w_Bc_ q1 ad_bc tC (va_up rf 2 (va_up (rf 2) ((v1 - 4).toNatClampNeg) (some qn))) bc ++ (w_Sg_ (ad_bc 100) ad_sg tC sg ++ (w_Tr_ (ad_bc 104) ad_tr tC tr ++ (w_Tr_ (ad_bc 105) ad_tu tC tu ++ (w_Ff_ (ad_bc 103) ad_ff tC ff ++ (w_Pl_ (ad_bc 101) ad_pl tC pl2 ++ (w_Lw_ (ad_bc 102) ad_lw tC lw ++ (w_Sf_ qn an tC S2 ++ (TAL tC nl hL adL LS ns gS aS nS SS FP hF adF FS)))))))))) := hD
      refine W.eq (g2 := F0 m 445 ls [.int r, .int r]) rfl ?_
      refine lv_icmp_eq (tgt := 1006) hx hb d_L_law_445 (by decide) (fun _ => ?_) (fun c9 => absurd rfl c9)
      refine W.widen (k := C + 3) (n := S + 43) (by omega) (by omega) ?_
      have hnd := nd_shelf (dt8 hD)
      have hP := pm_P (lf8 (add_shelf (FS := FS) hd37 hFn)) hP
      have hD := pm_D (lf8 (add_shelf (FS := FS) hd37 hFn)) hD
      exact K _ _ hS ⟨a2, ad_bc, ad_sg, ad_tr, ad_tu, ad_ff, ad_pl, ad_lw, ad_md, bc, sg, tr, tu, ff, pl2, lw, md2, nl, hL, adL, aT, nT, LS, TS, (va_up FP ((v1 - 4).toNatClampNeg) true), (va_up hF ((v1 - 4).toNatClampNeg) qn), (va_up adF ((v1 - 4).toNatClampNeg) an), (va_up FS ((v1 - 4).toNatClampNeg) S2), (va_up rf 2 (va_up (rf 2) ((v1 - 4).toNatClampNeg) (some qn))), ns, gS, aS, nS, SS, sh, hP, hD, (hFX.shelf hd37 hnd), ok2, rc2, rm2, (fun j hj => by have h9 := rs j (by rw [← hn1]; exact hj); rw [hn2, hn3]; exact h9), (Or.inl ⟨hp1, hp2⟩), (by rw [hns, hn1])⟩
set_option maxHeartbeats 4000000 in
set_option maxRecDepth 100000 in
theorem law_3 {p : Program} {l : Launch} {e : Env} {s : State} {m : MethodId} {b L : Nat} {xs : Nat → Int32} {below : List Frame} {meth : Method} {c : Code} {Q : State → Prop} {dC : Nat → ClassId} {dI : Nat → Nat → Nat} {tC : Nat → ClassId} {q1 q2 : Nat} (h0 : LH p s m c b L xs dC dI tC) {H : Heap} {locs : List Loc} (hS : va_S (lA s) s.heap H locs) (hi : LInv s dC dI tC q1 q2 H) {i : Int32} (hr : ∀ k : Nat, k < 8 → vp_in (i + Int32.ofNat k) L) {C S : Nat} (hC : C + 3 ≤ 637990) (hC2 : S + 43 ≤ 7188278) {ls : Array Slot} (hl : lv_has ls 4 [(3, .int i), (2, .ref q2), (1, .ref q1), (0, .ref b)]) (K : ∀ (H : Heap) (locs : List Loc), va_S (lA s) s.heap H locs → LInv s dC dI tC q1 q2 H → W p l e room_1 s m #[Value.ref b] below meth c H locs (C + 3) (S + 43) Q (F0 m 1006 ls [])) : W p l e room_1 s m #[Value.ref b] below meth c H locs C S Q (F0 m 227 ls []) := by
  obtain ⟨hx, hb, hml, hown, hts, hX, hbl, hK, hN⟩ := h0
  have hA : ∀ q : Nat, s.heap.size ≤ q → lA s q := fun _ h => h
  have hbA : ¬ lA s b := Nat.not_le.mpr hbl
  obtain ⟨a, ad_bc, ad_sg, ad_tr, ad_tu, ad_ff, ad_pl, ad_lw, ad_md, bc, sg, tr, tu, ff, pl, lw, md, nl, hL, adL, aT, nT, LS, TS, FP, hF, adF, FS, rf, ns, gS, aS, nS, SS, sh, hP, hD, hFX, ok, rc, rm, rs, hpl, hns⟩ := hi
  have hFM : FM tC (TAL tC nl hL adL LS ns gS aS nS SS FP hF adF FS) nl hL adL aT nT LS TS FP hF adF FS rf := hFX.fm (fun _ h => h)
  obtain ⟨v1, hv1⟩ : ∃ z : Int32, z = (xs (i + 1).toNatClampNeg) := ⟨_, rfl⟩
  obtain ⟨v2, hv2⟩ : ∃ z : Int32, z = (xs (i + 2).toNatClampNeg) := ⟨_, rfl⟩
  obtain ⟨v3, hv3⟩ : ∃ z : Int32, z = (xs (i + 3).toNatClampNeg) := ⟨_, rfl⟩
  obtain ⟨r, bc2, pl2, md2, a2, o, e1, e2, hd⟩ := x_bar (tr := tr) (tu := tu) (ff := ff) (pl := pl) (lw := lw) ok rc rm rs v1 v2 v3
  rw [← hns] at e1
  rcases hd with ⟨ho, h0, h1, h2, h3⟩ | ⟨S2, s0, ho, hs0, hv0, hbn, ok2, rc2, rm2, rs2, hn1, hnl, hp1, hp2⟩
  · rw [ho, h0, h1] at e1
    rw [h2] at e2
    refine lv_aload_n hx hb d_L_law_227 rfl (lv_at hl 2 rfl) ?_
    refine lv_aload_n hx hb d_L_law_228 rfl (lv_at hl 3 rfl) ?_
    refine lv_iload_n hx hb d_L_law_229 rfl (lv_at hl 0 rfl) ?_
    refine lv_iconst (v := 1) hx hb d_L_law_230 (by decide) ?_
    refine lv_iadd hx hb d_L_law_231 ?_
    refine va_sld hx hb hX hbl hbA hS (i := i + 1) (hr 1 (by omega)) d_L_law_232 ?_
    refine rw_i (y := v1) hv1.symm ?_
    refine lv_aload_n hx hb d_L_law_233 rfl (lv_at hl 3 rfl) ?_
    refine lv_iload_n hx hb d_L_law_234 rfl (lv_at hl 0 rfl) ?_
    refine lv_iconst (v := 2) hx hb d_L_law_235 (by decide) ?_
    refine lv_iadd hx hb d_L_law_236 ?_
    refine va_sld hx hb hX hbl hbA hS (i := i + 2) (hr 2 (by omega)) d_L_law_237 ?_
    refine rw_i (y := v2) hv2.symm ?_
    refine lv_aload_n hx hb d_L_law_238 rfl (lv_at hl 3 rfl) ?_
    refine lv_iload_n hx hb d_L_law_239 rfl (lv_at hl 0 rfl) ?_
    refine lv_iconst (v := 3) hx hb d_L_law_240 (by decide) ?_
    refine lv_iadd hx hb d_L_law_241 ?_
    refine va_sld hx hb hX hbl hbA hS (i := i + 3) (hr 3 (by omega)) d_L_law_242 ?_
    refine rw_i (y := v3) hv3.symm ?_
    have hPc := va_P_in (w := (w_Bc_ q1 ad_bc tC rf bc ++ (w_Sg_ (ad_bc 100) ad_sg tC sg ++ (w_Tr_ (ad_bc 104) ad_tr tC tr ++ (w_Tr_ (ad_bc 105) ad_tu tC tu ++ (w_Ff_ (ad_bc 103) ad_ff tC ff ++ (w_Pl_ (ad_bc 101) ad_pl tC pl ++ (w_Lw_ (ad_bc 102) ad_lw tC lw ++ (TAL tC nl hL adL LS ns gS aS nS SS FP hF adF FS))))))))) hP (fun q h => List.mem_append_right _ h)
    have hDc : va_D (lA s) (w_Bc_ q1 ad_bc tC rf bc ++ (w_Sg_ (ad_bc 100) ad_sg tC sg ++ (w_Tr_ (ad_bc 104) ad_tr tC tr ++ (w_Tr_ (ad_bc 105) ad_tu tC tu ++ (w_Ff_ (ad_bc 103) ad_ff tC ff ++ (w_Pl_ (ad_bc 101) ad_pl tC pl ++ (w_Lw_ (ad_bc 102) ad_lw tC lw ++ (TAL tC nl hL adL LS ns gS aS nS SS FP hF adF FS)))))))) := D_r hD
    have hFc : ∀ q, va_A (w_Bc_ q1 ad_bc tC rf bc ++ (w_Sg_ (ad_bc 100) ad_sg tC sg ++ (w_Tr_ (ad_bc 104) ad_tr tC tr ++ (w_Tr_ (ad_bc 105) ad_tu tC tu ++ (w_Ff_ (ad_bc 103) ad_ff tC ff ++ (w_Pl_ (ad_bc 101) ad_pl tC pl ++ (w_Lw_ (ad_bc 102) ad_lw tC lw ++ (TAL tC nl hL adL LS ns gS aS nS SS FP hF adF FS)))))))) _ q → lA s q := va_freeAll hDc hS hA
    refine wr_go (va_runV (As := [.int v1, .int v2, .int v3]) (rest := []) ⟨hx, hb, hml, hown, hts⟩ (m_Bc_bar l dC dI tC (TAL tC nl hL adL LS ns gS aS nS SS FP hF adF FS) nl hL adL aT nT LS TS FP hF adF FS rf ns gS q1 ad_bc bc ad_sg sg ad_tr tr ad_tu tu ad_ff ff ad_pl pl ad_lw lw v1 v2 v3 (r, bc, sg, tr, tu, ff, pl, lw, none) hFM hFX.2.2.1 e1 _) (cwV 3 hts (gd_V kM_L_30 kI_Bc_bar kV_Bc_bar kZ_8 kC_Bc_bar) rfl rfl rfl (by decide +kernel) ⟨(by decide +kernel), (by decide +kernel)⟩) ⟨wr_blind, va_recv hK hP (ci := 8) (q0 := 37) rfl rfl, wr_pre hK hPc hDc⟩ rfl rfl hl.1 rfl (lv_room (Nat.le_of_ble_eq_true rfl)) d_L_law_243 ⟨by show _ + 2 ≤ 637990; omega, by show _ + 15 ≤ 7188278; omega⟩) hS hFc (fun r w1 H1 locs hw hP1 hD1 hk1 hS => ?_)
    obtain ⟨rfl, hw⟩ := hw
    have hw := hw.resolve_right (fun ⟨x9, h9, _⟩ => by cases h9)
    obtain ⟨-, rfl⟩ := hw
    obtain ⟨hP, hD⟩ := jn_A hP hD hk1 hFc hP1 hD1
    clear hP1 hD1 hk1 hPc hDc hFc
    have hP : va_P (dC, dI) vwCl (w_Md_ q2 ad_md tC md ++ (w_Bc_ q1 ad_bc tC rf bc ++ (w_Sg_ (ad_bc 100) ad_sg tC sg ++ (w_Tr_ (ad_bc 104) ad_tr tC tr ++ (w_Tr_ (ad_bc 105) ad_tu tC tu ++ (w_Ff_ (ad_bc 103) ad_ff tC ff ++ (w_Pl_ (ad_bc 101) ad_pl tC pl ++ (w_Lw_ (ad_bc 102) ad_lw tC lw ++ (TAL tC nl hL adL LS ns gS aS nS SS FP hF adF FS))))))))) _ := hP
    have hD : va_D (lA s) (w_Md_ q2 ad_md tC md ++ (w_Bc_ q1 ad_bc tC rf bc ++ (w_Sg_ (ad_bc 100) ad_sg tC sg ++ (w_Tr_ (ad_bc 104) ad_tr tC tr ++ (w_Tr_ (ad_bc 105) ad_tu tC tu ++ (w_Ff_ (ad_bc 103) ad_ff tC ff ++ (w_Pl_ (ad_bc 101) ad_pl tC pl ++ (w_Lw_ (ad_bc 102) ad_lw tC lw ++ (TAL tC nl hL adL LS ns gS aS nS SS FP hF adF FS))))))))) := hD
    refine W.eq (g2 := F0 m 246 ls [.int r]) rfl ?_
    refine lv_aload_n hx hb d_L_law_246 rfl (lv_at hl 1 rfl) ?_
    refine lv_aload_n hx hb d_L_law_247 rfl (lv_at hl 3 rfl) ?_
    refine lv_iload_n hx hb d_L_law_248 rfl (lv_at hl 0 rfl) ?_
    refine lv_iconst (v := 1) hx hb d_L_law_249 (by decide) ?_
    refine lv_iadd hx hb d_L_law_250 ?_
    refine va_sld hx hb hX hbl hbA hS (i := i + 1) (hr 1 (by omega)) d_L_law_251 ?_
    refine rw_i (y := v1) hv1.symm ?_
    refine lv_aload_n hx hb d_L_law_252 rfl (lv_at hl 3 rfl) ?_
    refine lv_iload_n hx hb d_L_law_253 rfl (lv_at hl 0 rfl) ?_
    refine lv_iconst (v := 2) hx hb d_L_law_254 (by decide) ?_
    refine lv_iadd hx hb d_L_law_255 ?_
    refine va_sld hx hb hX hbl hbA hS (i := i + 2) (hr 2 (by omega)) d_L_law_256 ?_
    refine rw_i (y := v2) hv2.symm ?_
    refine lv_aload_n hx hb d_L_law_257 rfl (lv_at hl 3 rfl) ?_
    refine lv_iload_n hx hb d_L_law_258 rfl (lv_at hl 0 rfl) ?_
    refine lv_iconst (v := 3) hx hb d_L_law_259 (by decide) ?_
    refine lv_iadd hx hb d_L_law_260 ?_
    refine va_sld hx hb hX hbl hbA hS (i := i + 3) (hr 3 (by omega)) d_L_law_261 ?_
    refine rw_i (y := v3) hv3.symm ?_
    have hPx : va_P (dC, dI) vwCl (([] : va_W) ++ (w_Md_ q2 ad_md tC md ++ (w_Bc_ q1 ad_bc tC rf bc ++ (w_Sg_ (ad_bc 100) ad_sg tC sg ++ (w_Tr_ (ad_bc 104) ad_tr tC tr ++ (w_Tr_ (ad_bc 105) ad_tu tC tu ++ (w_Ff_ (ad_bc 103) ad_ff tC ff ++ (w_Pl_ (ad_bc 101) ad_pl tC pl ++ (w_Lw_ (ad_bc 102) ad_lw tC lw ++ (TAL tC nl hL adL LS ns gS aS nS SS FP hF adF FS)))))))))) _ := hP
    have hDx : va_D (lA s) (([] : va_W) ++ (w_Md_ q2 ad_md tC md ++ (w_Bc_ q1 ad_bc tC rf bc ++ (w_Sg_ (ad_bc 100) ad_sg tC sg ++ (w_Tr_ (ad_bc 104) ad_tr tC tr ++ (w_Tr_ (ad_bc 105) ad_tu tC tu ++ (w_Ff_ (ad_bc 103) ad_ff tC ff ++ (w_Pl_ (ad_bc 101) ad_pl tC pl ++ (w_Lw_ (ad_bc 102) ad_lw tC lw ++ (TAL tC nl hL adL LS ns gS aS nS SS FP hF adF FS)))))))))) := hD
    obtain ⟨hPc, hDc, hFc⟩ := bk_cut0 hPx hDx hS hA
    refine wr_go (va_runV (As := [.int v1, .int v2, .int v3]) (rest := [.int r]) ⟨hx, hb, hml, hown, hts⟩ (m_Md_bar l dC dI tC q2 ad_md md v1 v2 v3 (r, md) e2 _) (cwV 3 hts (gd_V kM_L_34 kI_Md_bar kV_Md_bar kZ_9 kC_Md_bar) rfl rfl rfl (by decide +kernel) ⟨(by decide +kernel), (by decide +kernel)⟩) ⟨wr_blind, va_recv hK hP (ci := 9) (q0 := 0) rfl rfl, wr_pre hK hPc hDc⟩ rfl rfl hl.1 rfl (lv_room (Nat.le_of_ble_eq_true rfl)) d_L_law_262 ⟨by show _ + 0 ≤ 637990; omega, by show _ + 0 ≤ 7188278; omega⟩) hS hFc (fun r w1 H1 locs hw hP1 hD1 hk1 hS => ?_)
    obtain ⟨rfl, rfl⟩ := hw
    obtain ⟨hP, hD⟩ := bk_join0 (B1 := w_Md_ q2 ad_md tC md) hPx hDx hk1 hP1 rfl
    clear hP1 hD1 hk1 hPc hDc hFc hPx hDx
    have hP : va_P (dC, dI) vwCl (w_Md_ q2 ad_md tC md ++ (w_Bc_ q1 ad_bc tC rf bc ++ (w_Sg_ (ad_bc 100) ad_sg tC sg ++ (w_Tr_ (ad_bc 104) ad_tr tC tr ++ (w_Tr_ (ad_bc 105) ad_tu tC tu ++ (w_Ff_ (ad_bc 103) ad_ff tC ff ++ (w_Pl_ (ad_bc 101) ad_pl tC pl ++ (w_Lw_ (ad_bc 102) ad_lw tC lw ++ (TAL tC nl hL adL LS ns gS aS nS SS FP hF adF FS))))))))) _ := hP
    have hD : va_D (lA s) (w_Md_ q2 ad_md tC md ++ (w_Bc_ q1 ad_bc tC rf bc ++ (w_Sg_ (ad_bc 100) ad_sg tC sg ++ (w_Tr_ (ad_bc 104) ad_tr tC tr ++ (w_Tr_ (ad_bc 105) ad_tu tC tu ++ (w_Ff_ (ad_bc 103) ad_ff tC ff ++ (w_Pl_ (ad_bc 101) ad_pl tC pl ++ (w_Lw_ (ad_bc 102) ad_lw tC lw ++ (TAL tC nl hL adL LS ns gS aS nS SS FP hF adF FS))))))))) := hD
    refine W.eq (g2 := F0 m 265 ls [.int r, .int r]) rfl ?_
    refine lv_icmp_eq (tgt := 1006) hx hb d_L_law_265 (by decide) (fun _ => ?_) (fun c9 => absurd rfl c9)
    refine W.widen (k := C + 3) (n := S + 43) (by omega) (by omega) ?_
    exact K _ _ hS ⟨a, ad_bc, ad_sg, ad_tr, ad_tu, ad_ff, ad_pl, ad_lw, ad_md, bc, sg, tr, tu, ff, pl, lw, md, nl, hL, adL, aT, nT, LS, TS, FP, hF, adF, FS, rf, ns, gS, aS, nS, SS, sh, hP, hD, hFX, ok, rc, rm, rs, hpl, hns⟩
  · rw [ho] at e1
    refine lv_aload_n hx hb d_L_law_227 rfl (lv_at hl 2 rfl) ?_
    refine lv_aload_n hx hb d_L_law_228 rfl (lv_at hl 3 rfl) ?_
    refine lv_iload_n hx hb d_L_law_229 rfl (lv_at hl 0 rfl) ?_
    refine lv_iconst (v := 1) hx hb d_L_law_230 (by decide) ?_
    refine lv_iadd hx hb d_L_law_231 ?_
    refine va_sld hx hb hX hbl hbA hS (i := i + 1) (hr 1 (by omega)) d_L_law_232 ?_
    refine rw_i (y := v1) hv1.symm ?_
    refine lv_aload_n hx hb d_L_law_233 rfl (lv_at hl 3 rfl) ?_
    refine lv_iload_n hx hb d_L_law_234 rfl (lv_at hl 0 rfl) ?_
    refine lv_iconst (v := 2) hx hb d_L_law_235 (by decide) ?_
    refine lv_iadd hx hb d_L_law_236 ?_
    refine va_sld hx hb hX hbl hbA hS (i := i + 2) (hr 2 (by omega)) d_L_law_237 ?_
    refine rw_i (y := v2) hv2.symm ?_
    refine lv_aload_n hx hb d_L_law_238 rfl (lv_at hl 3 rfl) ?_
    refine lv_iload_n hx hb d_L_law_239 rfl (lv_at hl 0 rfl) ?_
    refine lv_iconst (v := 3) hx hb d_L_law_240 (by decide) ?_
    refine lv_iadd hx hb d_L_law_241 ?_
    refine va_sld hx hb hX hbl hbA hS (i := i + 3) (hr 3 (by omega)) d_L_law_242 ?_
    refine rw_i (y := v3) hv3.symm ?_
    have hPc := va_P_in (w := (w_Bc_ q1 ad_bc tC rf bc ++ (w_Sg_ (ad_bc 100) ad_sg tC sg ++ (w_Tr_ (ad_bc 104) ad_tr tC tr ++ (w_Tr_ (ad_bc 105) ad_tu tC tu ++ (w_Ff_ (ad_bc 103) ad_ff tC ff ++ (w_Pl_ (ad_bc 101) ad_pl tC pl ++ (w_Lw_ (ad_bc 102) ad_lw tC lw ++ (TAL tC nl hL adL LS ns gS aS nS SS FP hF adF FS))))))))) hP (fun q h => List.mem_append_right _ h)
    have hDc : va_D (lA s) (w_Bc_ q1 ad_bc tC rf bc ++ (w_Sg_ (ad_bc 100) ad_sg tC sg ++ (w_Tr_ (ad_bc 104) ad_tr tC tr ++ (w_Tr_ (ad_bc 105) ad_tu tC tu ++ (w_Ff_ (ad_bc 103) ad_ff tC ff ++ (w_Pl_ (ad_bc 101) ad_pl tC pl ++ (w_Lw_ (ad_bc 102) ad_lw tC lw ++ (TAL tC nl hL adL LS ns gS aS nS SS FP hF adF FS)))))))) := D_r hD
    have hFc : ∀ q, va_A (w_Bc_ q1 ad_bc tC rf bc ++ (w_Sg_ (ad_bc 100) ad_sg tC sg ++ (w_Tr_ (ad_bc 104) ad_tr tC tr ++ (w_Tr_ (ad_bc 105) ad_tu tC tu ++ (w_Ff_ (ad_bc 103) ad_ff tC ff ++ (w_Pl_ (ad_bc 101) ad_pl tC pl ++ (w_Lw_ (ad_bc 102) ad_lw tC lw ++ (TAL tC nl hL adL LS ns gS aS nS SS FP hF adF FS)))))))) _ q → lA s q := va_freeAll hDc hS hA
    refine wr_go (va_runV (As := [.int v1, .int v2, .int v3]) (rest := []) ⟨hx, hb, hml, hown, hts⟩ (m_Bc_bar l dC dI tC (TAL tC nl hL adL LS ns gS aS nS SS FP hF adF FS) nl hL adL aT nT LS TS FP hF adF FS rf ns gS q1 ad_bc bc ad_sg sg ad_tr tr ad_tu tu ad_ff ff ad_pl pl ad_lw lw v1 v2 v3 (r, bc2, sg, tr, tu, ff, pl2, lw, some S2) hFM hFX.2.2.1 e1 _) (cwV 3 hts (gd_V kM_L_30 kI_Bc_bar kV_Bc_bar kZ_8 kC_Bc_bar) rfl rfl rfl (by decide +kernel) ⟨(by decide +kernel), (by decide +kernel)⟩) ⟨wr_blind, va_recv hK hP (ci := 8) (q0 := 37) rfl rfl, wr_pre hK hPc hDc⟩ rfl rfl hl.1 rfl (lv_room (Nat.le_of_ble_eq_true rfl)) d_L_law_243 ⟨by show _ + 2 ≤ 637990; omega, by show _ + 15 ≤ 7188278; omega⟩) hS hFc (fun r w1 H1 locs hw hP1 hD1 hk1 hS => ?_)
    obtain ⟨rfl, hw⟩ := hw
    have hw := hw.resolve_left (fun h9 => by cases h9.1)
    obtain ⟨x9, h9, qn, an, rfl⟩ := hw
    have h9 : some S2 = some x9 := h9
    obtain rfl := Option.some.inj h9
    obtain ⟨hP, hD⟩ := jn_A hP hD hk1 hFc hP1 hD1
    clear hP1 hD1 hk1 hPc hDc hFc
    have hP : va_P (dC, dI) vwCl (w_Md_ q2 ad_md tC md ++ (w_Bc_ q1 ad_bc tC (va_up rf 1 (va_up (rf 1) ((bc.1 1).toNatClampNeg) (some qn))) bc2 ++ (w_Sg_ (ad_bc 100) ad_sg tC sg ++ (w_Tr_ (ad_bc 104) ad_tr tC tr ++ (w_Tr_ (ad_bc 105) ad_tu tC tu ++ (w_Ff_ (ad_bc 103) ad_ff tC ff ++ (w_Pl_ (ad_bc 101) ad_pl tC pl2 ++ (w_Lw_ (ad_bc 102) ad_lw tC lw ++ (w_Ln_ qn (fun j => if j = 0 then an else gS v1.toNatClampNeg) tC S2 ++ (TAL tC nl hL adL LS ns gS aS nS SS FP hF adF FS)))))))))) _ := hP
    have hD : va_D (lA s) (w_Md_ q2 ad_md tC md ++ (w_Bc_ q1 ad_bc tC (va_up rf 1 (va_up (rf 1) ((bc.1 1).toNatClampNeg) (some qn))) bc2 ++ (w_Sg_ (ad_bc 100) ad_sg tC sg ++ (w_Tr_ (ad_bc 104) ad_tr tC tr ++ (w_Tr_ (ad_bc 105) ad_tu tC tu ++ (w_Ff_ (ad_bc 103) ad_ff tC ff ++ (w_Pl_ (ad_bc 101) ad_pl tC pl2 ++ (w_Lw_ (ad_bc 102) ad_lw tC lw ++ (w_Ln_ qn (fun j => if j = 0 then an else gS v1.toNatClampNeg) tC S2 ++ (TAL tC nl hL adL LS ns gS aS nS SS FP hF adF FS)))))))))) := hD
    refine W.eq (g2 := F0 m 246 ls [.int r]) rfl ?_
    refine lv_aload_n hx hb d_L_law_246 rfl (lv_at hl 1 rfl) ?_
    refine lv_aload_n hx hb d_L_law_247 rfl (lv_at hl 3 rfl) ?_
    refine lv_iload_n hx hb d_L_law_248 rfl (lv_at hl 0 rfl) ?_
    refine lv_iconst (v := 1) hx hb d_L_law_249 (by decide) ?_
    refine lv_iadd hx hb d_L_law_250 ?_
    refine va_sld hx hb hX hbl hbA hS (i := i + 1) (hr 1 (by omega)) d_L_law_251 ?_
    refine rw_i (y := v1) hv1.symm ?_
    refine lv_aload_n hx hb d_L_law_252 rfl (lv_at hl 3 rfl) ?_
    refine lv_iload_n hx hb d_L_law_253 rfl (lv_at hl 0 rfl) ?_
    refine lv_iconst (v := 2) hx hb d_L_law_254 (by decide) ?_
    refine lv_iadd hx hb d_L_law_255 ?_
    refine va_sld hx hb hX hbl hbA hS (i := i + 2) (hr 2 (by omega)) d_L_law_256 ?_
    refine rw_i (y := v2) hv2.symm ?_
    refine lv_aload_n hx hb d_L_law_257 rfl (lv_at hl 3 rfl) ?_
    refine lv_iload_n hx hb d_L_law_258 rfl (lv_at hl 0 rfl) ?_
    refine lv_iconst (v := 3) hx hb d_L_law_259 (by decide) ?_
    refine lv_iadd hx hb d_L_law_260 ?_
    refine va_sld hx hb hX hbl hbA hS (i := i + 3) (hr 3 (by omega)) d_L_law_261 ?_
    refine rw_i (y := v3) hv3.symm ?_
    have hPx : va_P (dC, dI) vwCl (([] : va_W) ++ (w_Md_ q2 ad_md tC md ++ (w_Bc_ q1 ad_bc tC (va_up rf 1 (va_up (rf 1) ((bc.1 1).toNatClampNeg) (some qn))) bc2 ++ (w_Sg_ (ad_bc 100) ad_sg tC sg ++ (w_Tr_ (ad_bc 104) ad_tr tC tr ++ (w_Tr_ (ad_bc 105) ad_tu tC tu ++ (w_Ff_ (ad_bc 103) ad_ff tC ff ++ (w_Pl_ (ad_bc 101) ad_pl tC pl2 ++ (w_Lw_ (ad_bc 102) ad_lw tC lw ++ (w_Ln_ qn (fun j => if j = 0 then an else gS v1.toNatClampNeg) tC S2 ++ (TAL tC nl hL adL LS ns gS aS nS SS FP hF adF FS))))))))))) _ := hP
    have hDx : va_D (lA s) (([] : va_W) ++ (w_Md_ q2 ad_md tC md ++ (w_Bc_ q1 ad_bc tC (va_up rf 1 (va_up (rf 1) ((bc.1 1).toNatClampNeg) (some qn))) bc2 ++ (w_Sg_ (ad_bc 100) ad_sg tC sg ++ (w_Tr_ (ad_bc 104) ad_tr tC tr ++ (w_Tr_ (ad_bc 105) ad_tu tC tu ++ (w_Ff_ (ad_bc 103) ad_ff tC ff ++ (w_Pl_ (ad_bc 101) ad_pl tC pl2 ++ (w_Lw_ (ad_bc 102) ad_lw tC lw ++ (w_Ln_ qn (fun j => if j = 0 then an else gS v1.toNatClampNeg) tC S2 ++ (TAL tC nl hL adL LS ns gS aS nS SS FP hF adF FS))))))))))) := hD
    obtain ⟨hPc, hDc, hFc⟩ := bk_cut0 hPx hDx hS hA
    refine wr_go (va_runV (As := [.int v1, .int v2, .int v3]) (rest := [.int r]) ⟨hx, hb, hml, hown, hts⟩ (m_Md_bar l dC dI tC q2 ad_md md v1 v2 v3 (r, md2) e2 _) (cwV 3 hts (gd_V kM_L_34 kI_Md_bar kV_Md_bar kZ_9 kC_Md_bar) rfl rfl rfl (by decide +kernel) ⟨(by decide +kernel), (by decide +kernel)⟩) ⟨wr_blind, va_recv hK hP (ci := 9) (q0 := 0) rfl rfl, wr_pre hK hPc hDc⟩ rfl rfl hl.1 rfl (lv_room (Nat.le_of_ble_eq_true rfl)) d_L_law_262 ⟨by show _ + 0 ≤ 637990; omega, by show _ + 0 ≤ 7188278; omega⟩) hS hFc (fun r w1 H1 locs hw hP1 hD1 hk1 hS => ?_)
    obtain ⟨rfl, rfl⟩ := hw
    obtain ⟨hP, hD⟩ := bk_join0 (B1 := w_Md_ q2 ad_md tC md2) hPx hDx hk1 hP1 rfl
    clear hP1 hD1 hk1 hPc hDc hFc hPx hDx
    have hP : va_P (dC, dI) vwCl (w_Md_ q2 ad_md tC md2 ++ (w_Bc_ q1 ad_bc tC (va_up rf 1 (va_up (rf 1) ((bc.1 1).toNatClampNeg) (some qn))) bc2 ++ (w_Sg_ (ad_bc 100) ad_sg tC sg ++ (w_Tr_ (ad_bc 104) ad_tr tC tr ++ (w_Tr_ (ad_bc 105) ad_tu tC tu ++ (w_Ff_ (ad_bc 103) ad_ff tC ff ++ (w_Pl_ (ad_bc 101) ad_pl tC pl2 ++ (w_Lw_ (ad_bc 102) ad_lw tC lw ++ (w_Ln_ qn (fun j => if j = 0 then an else gS v1.toNatClampNeg) tC S2 ++ (TAL tC nl hL adL LS ns gS aS nS SS FP hF adF FS)))))))))) _ := hP
    have hD : va_D (lA s) (w_Md_ q2 ad_md tC md2 ++ (w_Bc_ q1 ad_bc tC (va_up rf 1 (va_up (rf 1) ((bc.1 1).toNatClampNeg) (some qn))) bc2 ++ (w_Sg_ (ad_bc 100) ad_sg tC sg ++ (w_Tr_ (ad_bc 104) ad_tr tC tr ++ (w_Tr_ (ad_bc 105) ad_tu tC tu ++ (w_Ff_ (ad_bc 103) ad_ff tC ff ++ (w_Pl_ (ad_bc 101) ad_pl tC pl2 ++ (w_Lw_ (ad_bc 102) ad_lw tC lw ++ (w_Ln_ qn (fun j => if j = 0 then an else gS v1.toNatClampNeg) tC S2 ++ (TAL tC nl hL adL LS ns gS aS nS SS FP hF adF FS)))))))))) := hD
    refine W.eq (g2 := F0 m 265 ls [.int r, .int r]) rfl ?_
    refine lv_icmp_eq (tgt := 1006) hx hb d_L_law_265 (by decide) (fun _ => ?_) (fun c9 => absurd rfl c9)
    refine W.widen (k := C + 3) (n := S + 43) (by omega) (by omega) ?_
    have hT := dt8 hD
    have hmem : ∀ y ∈ w_Sh_ (gS s0) (aS s0) tC (nS s0) (SS s0), y ∈ (TAL tC nl hL adL LS ns gS aS nS SS FP hF adF FS) := fun y hy => List.mem_append_right _ (List.mem_append_left _ (mem_TSh (by rw [hns]; exact hs0) y hy))
    have had : (fun j => if j = 0 then an else gS v1.toNatClampNeg) 100 = gS s0 := by
      show (if (100 : Nat) = 0 then an else gS v1.toNatClampNeg) = gS s0
      rw [if_neg (by omega), hv0]
    have hnd := nd_line (ad := (fun j => if j = 0 then an else gS v1.toNatClampNeg)) (a2 := aS s0) (n := nS s0) (S2 := SS s0) hT had hmem (nd_shp (D_r hT) hmem)
    rw [hbn] at hP hD
    have hP := pm_P (lf8 (add_line)) hP
    have hD := pm_D (lf8 (add_line)) hD
    exact K _ _ hS ⟨a2, ad_bc, ad_sg, ad_tr, ad_tu, ad_ff, ad_pl, ad_lw, ad_md, bc2, sg, tr, tu, ff, pl2, lw, md2, (nl + 1), (va_up hL nl qn), (va_up adL nl (fun j => if j = 0 then an else gS v1.toNatClampNeg)), (va_up aT nl (aS s0)), (va_up nT nl (nS s0)), (va_up LS nl S2), (va_up TS nl (SS s0)), FP, hF, adF, FS, (va_up rf 1 (va_up (rf 1) nl (some qn))), ns, gS, aS, nS, SS, (va_up sh nl s0), hP, hD, (hFX.line (by rw [hns]; exact hs0) had hnd), ok2, rc2, rm2, rs2, (Or.inl ⟨hp1, hp2⟩), (by rw [hns, hn1])⟩
set_option maxHeartbeats 4000000 in
set_option maxRecDepth 100000 in
theorem law_1 {p : Program} {l : Launch} {e : Env} {s : State} {m : MethodId} {b L : Nat} {xs : Nat → Int32} {below : List Frame} {meth : Method} {c : Code} {Q : State → Prop} {dC : Nat → ClassId} {dI : Nat → Nat → Nat} {tC : Nat → ClassId} {q1 q2 : Nat} (h0 : LH p s m c b L xs dC dI tC) {H : Heap} {locs : List Loc} (hS : va_S (lA s) s.heap H locs) (hi : LInv s dC dI tC q1 q2 H) {i : Int32} (hr : ∀ k : Nat, k < 8 → vp_in (i + Int32.ofNat k) L) {C S : Nat} (hC : C + 3 ≤ 637990) (hC2 : S + 43 ≤ 7188278) {ls : Array Slot} (hl : lv_has ls 4 [(3, .int i), (2, .ref q2), (1, .ref q1), (0, .ref b)]) (K : ∀ (H : Heap) (locs : List Loc), va_S (lA s) s.heap H locs → LInv s dC dI tC q1 q2 H → W p l e room_1 s m #[Value.ref b] below meth c H locs (C + 3) (S + 43) Q (F0 m 1006 ls [])) : W p l e room_1 s m #[Value.ref b] below meth c H locs C S Q (F0 m 151 ls []) := by
  obtain ⟨hx, hb, hml, hown, hts, hX, hbl, hK, hN⟩ := h0
  have hA : ∀ q : Nat, s.heap.size ≤ q → lA s q := fun _ h => h
  have hbA : ¬ lA s b := Nat.not_le.mpr hbl
  obtain ⟨a, ad_bc, ad_sg, ad_tr, ad_tu, ad_ff, ad_pl, ad_lw, ad_md, bc, sg, tr, tu, ff, pl, lw, md, nl, hL, adL, aT, nT, LS, TS, FP, hF, adF, FS, rf, ns, gS, aS, nS, SS, sh, hP, hD, hFX, ok, rc, rm, rs, hpl, hns⟩ := hi
  have hFM : FM tC (TAL tC nl hL adL LS ns gS aS nS SS FP hF adF FS) nl hL adL aT nT LS TS FP hF adF FS rf := hFX.fm (fun _ h => h)
  obtain ⟨r, bc2, sg2, md2, a2, o, e1, e2, ok2, rc2, rm2, hplm, hd⟩ := x_shape (tr := tr) (tu := tu) (ff := ff) (pl := pl) (lw := lw) ok rc rm rs
  rcases hd with ⟨ho, h0, rs2, hn1⟩ | ⟨n2, S2, ho, hn1, hn10, hb0, rs2⟩
  · rw [ho] at e1
    refine lv_aload_n hx hb d_L_law_151 rfl (lv_at hl 2 rfl) ?_
    have hPc := va_P_in (w := (w_Bc_ q1 ad_bc tC rf bc ++ (w_Sg_ (ad_bc 100) ad_sg tC sg ++ (w_Tr_ (ad_bc 104) ad_tr tC tr ++ (w_Tr_ (ad_bc 105) ad_tu tC tu ++ (w_Ff_ (ad_bc 103) ad_ff tC ff ++ (w_Pl_ (ad_bc 101) ad_pl tC pl ++ (w_Lw_ (ad_bc 102) ad_lw tC lw ++ (TAL tC nl hL adL LS ns gS aS nS SS FP hF adF FS))))))))) hP (fun q h => List.mem_append_right _ h)
    have hDc : va_D (lA s) (w_Bc_ q1 ad_bc tC rf bc ++ (w_Sg_ (ad_bc 100) ad_sg tC sg ++ (w_Tr_ (ad_bc 104) ad_tr tC tr ++ (w_Tr_ (ad_bc 105) ad_tu tC tu ++ (w_Ff_ (ad_bc 103) ad_ff tC ff ++ (w_Pl_ (ad_bc 101) ad_pl tC pl ++ (w_Lw_ (ad_bc 102) ad_lw tC lw ++ (TAL tC nl hL adL LS ns gS aS nS SS FP hF adF FS)))))))) := D_r hD
    have hFc : ∀ q, va_A (w_Bc_ q1 ad_bc tC rf bc ++ (w_Sg_ (ad_bc 100) ad_sg tC sg ++ (w_Tr_ (ad_bc 104) ad_tr tC tr ++ (w_Tr_ (ad_bc 105) ad_tu tC tu ++ (w_Ff_ (ad_bc 103) ad_ff tC ff ++ (w_Pl_ (ad_bc 101) ad_pl tC pl ++ (w_Lw_ (ad_bc 102) ad_lw tC lw ++ (TAL tC nl hL adL LS ns gS aS nS SS FP hF adF FS)))))))) _ q → lA s q := va_freeAll hDc hS hA
    refine wr_go (va_runV (As := []) (rest := []) ⟨hx, hb, hml, hown, hts⟩ (m_Bc_shape l dC dI tC (TAL tC nl hL adL LS ns gS aS nS SS FP hF adF FS) nl hL adL aT nT LS TS FP hF adF FS rf q1 ad_bc bc ad_sg sg ad_tr tr ad_tu tu ad_ff ff ad_pl pl ad_lw lw (r, bc2, sg2, tr, tu, ff, pl, lw, none) hFM e1 _) (cwV 0 hts (gd_V kM_L_18 kI_Bc_shape kV_Bc_shape kZ_8 kC_Bc_shape) rfl rfl rfl (by decide +kernel) ⟨(by decide +kernel), (by decide +kernel)⟩) ⟨wr_blind, va_recv hK hP (ci := 8) (q0 := 37) rfl rfl, wr_pre hK hPc hDc⟩ rfl rfl hl.1 rfl (lv_room (Nat.le_of_ble_eq_true rfl)) d_L_law_152 ⟨by show _ + 2 ≤ 637990; omega, by show _ + 43 ≤ 7188278; omega⟩) hS hFc (fun r w1 H1 locs hw hP1 hD1 hk1 hS => ?_)
    obtain ⟨rfl, hw⟩ := hw
    have hw := hw.resolve_right (fun ⟨x9, h9, _⟩ => by cases h9)
    obtain ⟨-, rfl⟩ := hw
    obtain ⟨hP, hD⟩ := jn_A hP hD hk1 hFc hP1 hD1
    clear hP1 hD1 hk1 hPc hDc hFc
    have hP : va_P (dC, dI) vwCl (w_Md_ q2 ad_md tC md ++ (w_Bc_ q1 ad_bc tC rf bc2 ++ (w_Sg_ (ad_bc 100) ad_sg tC sg2 ++ (w_Tr_ (ad_bc 104) ad_tr tC tr ++ (w_Tr_ (ad_bc 105) ad_tu tC tu ++ (w_Ff_ (ad_bc 103) ad_ff tC ff ++ (w_Pl_ (ad_bc 101) ad_pl tC pl ++ (w_Lw_ (ad_bc 102) ad_lw tC lw ++ (TAL tC nl hL adL LS ns gS aS nS SS FP hF adF FS))))))))) _ := hP
    have hD : va_D (lA s) (w_Md_ q2 ad_md tC md ++ (w_Bc_ q1 ad_bc tC rf bc2 ++ (w_Sg_ (ad_bc 100) ad_sg tC sg2 ++ (w_Tr_ (ad_bc 104) ad_tr tC tr ++ (w_Tr_ (ad_bc 105) ad_tu tC tu ++ (w_Ff_ (ad_bc 103) ad_ff tC ff ++ (w_Pl_ (ad_bc 101) ad_pl tC pl ++ (w_Lw_ (ad_bc 102) ad_lw tC lw ++ (TAL tC nl hL adL LS ns gS aS nS SS FP hF adF FS))))))))) := hD
    refine W.eq (g2 := F0 m 155 ls [.int r]) rfl ?_
    refine lv_aload_n hx hb d_L_law_155 rfl (lv_at hl 1 rfl) ?_
    have hPx : va_P (dC, dI) vwCl (([] : va_W) ++ (w_Md_ q2 ad_md tC md ++ (w_Bc_ q1 ad_bc tC rf bc2 ++ (w_Sg_ (ad_bc 100) ad_sg tC sg2 ++ (w_Tr_ (ad_bc 104) ad_tr tC tr ++ (w_Tr_ (ad_bc 105) ad_tu tC tu ++ (w_Ff_ (ad_bc 103) ad_ff tC ff ++ (w_Pl_ (ad_bc 101) ad_pl tC pl ++ (w_Lw_ (ad_bc 102) ad_lw tC lw ++ (TAL tC nl hL adL LS ns gS aS nS SS FP hF adF FS)))))))))) _ := hP
    have hDx : va_D (lA s) (([] : va_W) ++ (w_Md_ q2 ad_md tC md ++ (w_Bc_ q1 ad_bc tC rf bc2 ++ (w_Sg_ (ad_bc 100) ad_sg tC sg2 ++ (w_Tr_ (ad_bc 104) ad_tr tC tr ++ (w_Tr_ (ad_bc 105) ad_tu tC tu ++ (w_Ff_ (ad_bc 103) ad_ff tC ff ++ (w_Pl_ (ad_bc 101) ad_pl tC pl ++ (w_Lw_ (ad_bc 102) ad_lw tC lw ++ (TAL tC nl hL adL LS ns gS aS nS SS FP hF adF FS)))))))))) := hD
    obtain ⟨hPc, hDc, hFc⟩ := bk_cut0 hPx hDx hS hA
    refine wr_go (va_runV (As := []) (rest := [.int r]) ⟨hx, hb, hml, hown, hts⟩ (m_Md_shape l dC dI tC q2 ad_md md  (r, md2) e2 _) (cwV 0 hts (gd_V kM_L_22 kI_Md_shape kV_Md_shape kZ_9 kC_Md_shape) rfl rfl rfl (by decide +kernel) ⟨(by decide +kernel), (by decide +kernel)⟩) ⟨wr_blind, va_recv hK hP (ci := 9) (q0 := 0) rfl rfl, wr_pre hK hPc hDc⟩ rfl rfl hl.1 rfl (lv_room (Nat.le_of_ble_eq_true rfl)) d_L_law_156 ⟨by show _ + 0 ≤ 637990; omega, by show _ + 0 ≤ 7188278; omega⟩) hS hFc (fun r w1 H1 locs hw hP1 hD1 hk1 hS => ?_)
    obtain ⟨rfl, rfl⟩ := hw
    obtain ⟨hP, hD⟩ := bk_join0 (B1 := w_Md_ q2 ad_md tC md2) hPx hDx hk1 hP1 rfl
    clear hP1 hD1 hk1 hPc hDc hFc hPx hDx
    have hP : va_P (dC, dI) vwCl (w_Md_ q2 ad_md tC md2 ++ (w_Bc_ q1 ad_bc tC rf bc2 ++ (w_Sg_ (ad_bc 100) ad_sg tC sg2 ++ (w_Tr_ (ad_bc 104) ad_tr tC tr ++ (w_Tr_ (ad_bc 105) ad_tu tC tu ++ (w_Ff_ (ad_bc 103) ad_ff tC ff ++ (w_Pl_ (ad_bc 101) ad_pl tC pl ++ (w_Lw_ (ad_bc 102) ad_lw tC lw ++ (TAL tC nl hL adL LS ns gS aS nS SS FP hF adF FS))))))))) _ := hP
    have hD : va_D (lA s) (w_Md_ q2 ad_md tC md2 ++ (w_Bc_ q1 ad_bc tC rf bc2 ++ (w_Sg_ (ad_bc 100) ad_sg tC sg2 ++ (w_Tr_ (ad_bc 104) ad_tr tC tr ++ (w_Tr_ (ad_bc 105) ad_tu tC tu ++ (w_Ff_ (ad_bc 103) ad_ff tC ff ++ (w_Pl_ (ad_bc 101) ad_pl tC pl ++ (w_Lw_ (ad_bc 102) ad_lw tC lw ++ (TAL tC nl hL adL LS ns gS aS nS SS FP hF adF FS))))))))) := hD
    refine W.eq (g2 := F0 m 159 ls [.int r, .int r]) rfl ?_
    refine lv_icmp_eq (tgt := 1006) hx hb d_L_law_159 (by decide) (fun _ => ?_) (fun c9 => absurd rfl c9)
    refine W.widen (k := C + 3) (n := S + 43) (by omega) (by omega) ?_
    exact K _ _ hS ⟨a2, ad_bc, ad_sg, ad_tr, ad_tu, ad_ff, ad_pl, ad_lw, ad_md, bc2, sg2, tr, tu, ff, pl, lw, md2, nl, hL, adL, aT, nT, LS, TS, FP, hF, adF, FS, rf, ns, gS, aS, nS, SS, sh, hP, hD, hFX, ok2, rc2, rm2, rs2, (hplm hpl), (by rw [hns, hn1])⟩
  · rw [ho] at e1
    refine lv_aload_n hx hb d_L_law_151 rfl (lv_at hl 2 rfl) ?_
    have hPc := va_P_in (w := (w_Bc_ q1 ad_bc tC rf bc ++ (w_Sg_ (ad_bc 100) ad_sg tC sg ++ (w_Tr_ (ad_bc 104) ad_tr tC tr ++ (w_Tr_ (ad_bc 105) ad_tu tC tu ++ (w_Ff_ (ad_bc 103) ad_ff tC ff ++ (w_Pl_ (ad_bc 101) ad_pl tC pl ++ (w_Lw_ (ad_bc 102) ad_lw tC lw ++ (TAL tC nl hL adL LS ns gS aS nS SS FP hF adF FS))))))))) hP (fun q h => List.mem_append_right _ h)
    have hDc : va_D (lA s) (w_Bc_ q1 ad_bc tC rf bc ++ (w_Sg_ (ad_bc 100) ad_sg tC sg ++ (w_Tr_ (ad_bc 104) ad_tr tC tr ++ (w_Tr_ (ad_bc 105) ad_tu tC tu ++ (w_Ff_ (ad_bc 103) ad_ff tC ff ++ (w_Pl_ (ad_bc 101) ad_pl tC pl ++ (w_Lw_ (ad_bc 102) ad_lw tC lw ++ (TAL tC nl hL adL LS ns gS aS nS SS FP hF adF FS)))))))) := D_r hD
    have hFc : ∀ q, va_A (w_Bc_ q1 ad_bc tC rf bc ++ (w_Sg_ (ad_bc 100) ad_sg tC sg ++ (w_Tr_ (ad_bc 104) ad_tr tC tr ++ (w_Tr_ (ad_bc 105) ad_tu tC tu ++ (w_Ff_ (ad_bc 103) ad_ff tC ff ++ (w_Pl_ (ad_bc 101) ad_pl tC pl ++ (w_Lw_ (ad_bc 102) ad_lw tC lw ++ (TAL tC nl hL adL LS ns gS aS nS SS FP hF adF FS)))))))) _ q → lA s q := va_freeAll hDc hS hA
    refine wr_go (va_runV (As := []) (rest := []) ⟨hx, hb, hml, hown, hts⟩ (m_Bc_shape l dC dI tC (TAL tC nl hL adL LS ns gS aS nS SS FP hF adF FS) nl hL adL aT nT LS TS FP hF adF FS rf q1 ad_bc bc ad_sg sg ad_tr tr ad_tu tu ad_ff ff ad_pl pl ad_lw lw (r, bc2, sg2, tr, tu, ff, pl, lw, some (n2, S2)) hFM e1 _) (cwV 0 hts (gd_V kM_L_18 kI_Bc_shape kV_Bc_shape kZ_8 kC_Bc_shape) rfl rfl rfl (by decide +kernel) ⟨(by decide +kernel), (by decide +kernel)⟩) ⟨wr_blind, va_recv hK hP (ci := 8) (q0 := 37) rfl rfl, wr_pre hK hPc hDc⟩ rfl rfl hl.1 rfl (lv_room (Nat.le_of_ble_eq_true rfl)) d_L_law_152 ⟨by show _ + 2 ≤ 637990; omega, by show _ + 43 ≤ 7188278; omega⟩) hS hFc (fun r w1 H1 locs hw hP1 hD1 hk1 hS => ?_)
    obtain ⟨rfl, hw⟩ := hw
    have hw := hw.resolve_left (fun h9 => by cases h9.1)
    obtain ⟨x9, h9, qn, an, rfl⟩ := hw
    have h9 : some (n2, S2) = some x9 := h9
    obtain rfl := Option.some.inj h9
    obtain ⟨hP, hD⟩ := jn_A hP hD hk1 hFc hP1 hD1
    clear hP1 hD1 hk1 hPc hDc hFc
    have hP : va_P (dC, dI) vwCl (w_Md_ q2 ad_md tC md ++ (w_Bc_ q1 ad_bc tC (va_up rf 0 (va_up (rf 0) ((bc.1 0).toNatClampNeg) (some qn))) bc2 ++ (w_Sg_ (ad_bc 100) ad_sg tC sg2 ++ (w_Tr_ (ad_bc 104) ad_tr tC tr ++ (w_Tr_ (ad_bc 105) ad_tu tC tu ++ (w_Ff_ (ad_bc 103) ad_ff tC ff ++ (w_Pl_ (ad_bc 101) ad_pl tC pl ++ (w_Lw_ (ad_bc 102) ad_lw tC lw ++ (w_Sh_ qn (fun _ => an) tC n2 S2 ++ (TAL tC nl hL adL LS ns gS aS nS SS FP hF adF FS)))))))))) _ := hP
    have hD : va_D (lA s) (w_Md_ q2 ad_md tC md ++ (w_Bc_ q1 ad_bc tC (va_up rf 0 (va_up (rf 0) ((bc.1 0).toNatClampNeg) (some qn))) bc2 ++ (w_Sg_ (ad_bc 100) ad_sg tC sg2 ++ (w_Tr_ (ad_bc 104) ad_tr tC tr ++ (w_Tr_ (ad_bc 105) ad_tu tC tu ++ (w_Ff_ (ad_bc 103) ad_ff tC ff ++ (w_Pl_ (ad_bc 101) ad_pl tC pl ++ (w_Lw_ (ad_bc 102) ad_lw tC lw ++ (w_Sh_ qn (fun _ => an) tC n2 S2 ++ (TAL tC nl hL adL LS ns gS aS nS SS FP hF adF FS)))))))))) := hD
    refine W.eq (g2 := F0 m 155 ls [.int r]) rfl ?_
    refine lv_aload_n hx hb d_L_law_155 rfl (lv_at hl 1 rfl) ?_
    have hPx : va_P (dC, dI) vwCl (([] : va_W) ++ (w_Md_ q2 ad_md tC md ++ (w_Bc_ q1 ad_bc tC (va_up rf 0 (va_up (rf 0) ((bc.1 0).toNatClampNeg) (some qn))) bc2 ++ (w_Sg_ (ad_bc 100) ad_sg tC sg2 ++ (w_Tr_ (ad_bc 104) ad_tr tC tr ++ (w_Tr_ (ad_bc 105) ad_tu tC tu ++ (w_Ff_ (ad_bc 103) ad_ff tC ff ++ (w_Pl_ (ad_bc 101) ad_pl tC pl ++ (w_Lw_ (ad_bc 102) ad_lw tC lw ++ (w_Sh_ qn (fun _ => an) tC n2 S2 ++ (TAL tC nl hL adL LS ns gS aS nS SS FP hF adF FS))))))))))) _ := hP
    have hDx : va_D (lA s) (([] : va_W) ++ (w_Md_ q2 ad_md tC md ++ (w_Bc_ q1 ad_bc tC (va_up rf 0 (va_up (rf 0) ((bc.1 0).toNatClampNeg) (some qn))) bc2 ++ (w_Sg_ (ad_bc 100) ad_sg tC sg2 ++ (w_Tr_ (ad_bc 104) ad_tr tC tr ++ (w_Tr_ (ad_bc 105) ad_tu tC tu ++ (w_Ff_ (ad_bc 103) ad_ff tC ff ++ (w_Pl_ (ad_bc 101) ad_pl tC pl ++ (w_Lw_ (ad_bc 102) ad_lw tC lw ++ (w_Sh_ qn (fun _ => an) tC n2 S2 ++ (TAL tC nl hL adL LS ns gS aS nS SS FP hF adF FS))))))))))) := hD
    obtain ⟨hPc, hDc, hFc⟩ := bk_cut0 hPx hDx hS hA
    refine wr_go (va_runV (As := []) (rest := [.int r]) ⟨hx, hb, hml, hown, hts⟩ (m_Md_shape l dC dI tC q2 ad_md md  (r, md2) e2 _) (cwV 0 hts (gd_V kM_L_22 kI_Md_shape kV_Md_shape kZ_9 kC_Md_shape) rfl rfl rfl (by decide +kernel) ⟨(by decide +kernel), (by decide +kernel)⟩) ⟨wr_blind, va_recv hK hP (ci := 9) (q0 := 0) rfl rfl, wr_pre hK hPc hDc⟩ rfl rfl hl.1 rfl (lv_room (Nat.le_of_ble_eq_true rfl)) d_L_law_156 ⟨by show _ + 0 ≤ 637990; omega, by show _ + 0 ≤ 7188278; omega⟩) hS hFc (fun r w1 H1 locs hw hP1 hD1 hk1 hS => ?_)
    obtain ⟨rfl, rfl⟩ := hw
    obtain ⟨hP, hD⟩ := bk_join0 (B1 := w_Md_ q2 ad_md tC md2) hPx hDx hk1 hP1 rfl
    clear hP1 hD1 hk1 hPc hDc hFc hPx hDx
    have hP : va_P (dC, dI) vwCl (w_Md_ q2 ad_md tC md2 ++ (w_Bc_ q1 ad_bc tC (va_up rf 0 (va_up (rf 0) ((bc.1 0).toNatClampNeg) (some qn))) bc2 ++ (w_Sg_ (ad_bc 100) ad_sg tC sg2 ++ (w_Tr_ (ad_bc 104) ad_tr tC tr ++ (w_Tr_ (ad_bc 105) ad_tu tC tu ++ (w_Ff_ (ad_bc 103) ad_ff tC ff ++ (w_Pl_ (ad_bc 101) ad_pl tC pl ++ (w_Lw_ (ad_bc 102) ad_lw tC lw ++ (w_Sh_ qn (fun _ => an) tC n2 S2 ++ (TAL tC nl hL adL LS ns gS aS nS SS FP hF adF FS)))))))))) _ := hP
    have hD : va_D (lA s) (w_Md_ q2 ad_md tC md2 ++ (w_Bc_ q1 ad_bc tC (va_up rf 0 (va_up (rf 0) ((bc.1 0).toNatClampNeg) (some qn))) bc2 ++ (w_Sg_ (ad_bc 100) ad_sg tC sg2 ++ (w_Tr_ (ad_bc 104) ad_tr tC tr ++ (w_Tr_ (ad_bc 105) ad_tu tC tu ++ (w_Ff_ (ad_bc 103) ad_ff tC ff ++ (w_Pl_ (ad_bc 101) ad_pl tC pl ++ (w_Lw_ (ad_bc 102) ad_lw tC lw ++ (w_Sh_ qn (fun _ => an) tC n2 S2 ++ (TAL tC nl hL adL LS ns gS aS nS SS FP hF adF FS)))))))))) := hD
    refine W.eq (g2 := F0 m 159 ls [.int r, .int r]) rfl ?_
    refine lv_icmp_eq (tgt := 1006) hx hb d_L_law_159 (by decide) (fun _ => ?_) (fun c9 => absurd rfl c9)
    refine W.widen (k := C + 3) (n := S + 43) (by omega) (by omega) ?_
    rw [hb0, ← hns] at hP hD
    rw [← hns] at rs2
    have hP := pm_P (lf8 (add_shape)) hP
    have hD := pm_D (lf8 (add_shape)) hD
    exact K _ _ hS ⟨a2, ad_bc, ad_sg, ad_tr, ad_tu, ad_ff, ad_pl, ad_lw, ad_md, bc2, sg2, tr, tu, ff, pl, lw, md2, nl, hL, adL, aT, nT, LS, TS, FP, hF, adF, FS, (va_up rf 0 (va_up (rf 0) ns (some qn))), (ns + 1), (va_up gS ns qn), (va_up aS ns (fun _ => an)), (va_up nS ns n2), (va_up SS ns S2), sh, hP, hD, hFX.shape, ok2, rc2, rm2, rs2, (hplm hpl), (by rw [hns, hn1])⟩
