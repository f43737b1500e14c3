set_option maxHeartbeats 4000000 in
set_option maxRecDepth 100000 in
theorem law_2 {p : Program} {l : Launch} {e : Env} {s : State} {m : MethodId} {b L : Nat} {xs : Nat → Int32} {below : List Frame} {meth : Method} {c : Code} {Q : State → Prop} {dC : Nat → ClassId} {dI : Nat → Nat → Nat} {tC : Nat → ClassId} {q1 q2 : Nat} (h0 : LH p s m c b L xs dC dI tC) {H : Heap} {locs : List Loc} (hS : va_S (lA s) s.heap H locs) (hi : LInv s dC dI tC q1 q2 H) {i : Int32} (hr : ∀ k : Nat, k < 8 → vp_in (i + Int32.ofNat k) L) {C S : Nat} (hC : C + 3 ≤ 637990) (hC2 : S + 43 ≤ 7188278) {ls : Array Slot} (hl : lv_has ls 4 [(3, .int i), (2, .ref q2), (1, .ref q1), (0, .ref b)]) (K : ∀ (H : Heap) (locs : List Loc), va_S (lA s) s.heap H locs → LInv s dC dI tC q1 q2 H → W p l e room_1 s m #[Value.ref b] below meth c H locs (C + 3) (S + 43) Q (F0 m 1006 ls [])) : W p l e room_1 s m #[Value.ref b] below meth c H locs C S Q (F0 m 164 ls []) := by
  obtain ⟨hx, hb, hml, hown, hts, hX, hbl, hK, hN⟩ := h0
  have hA : ∀ q : Nat, s.heap.size ≤ q → lA s q := fun _ h => h
  have hbA : ¬ lA s b := Nat.not_le.mpr hbl
  obtain ⟨a, ad_bc, ad_sg, ad_tr, ad_tu, ad_ff, ad_pl, ad_lw, ad_md, bc, sg, tr, tu, ff, pl, lw, md, nl, hL, adL, aT, nT, LS, TS, FP, hF, adF, FS, rf, ns, gS, aS, nS, SS, sh, hP, hD, hFX, ok, rc, rm, rs, hpl, hns⟩ := hi
  have hFM : FM tC (TAL tC nl hL adL LS ns gS aS nS SS FP hF adF FS) nl hL adL aT nT LS TS FP hF adF FS rf := hFX.fm (fun _ h => h)
  obtain ⟨v1, hv1⟩ : ∃ z : Int32, z = (xs (i + 1).toNatClampNeg) := ⟨_, rfl⟩
  obtain ⟨v2, hv2⟩ : ∃ z : Int64, z = (((xs (i + 2).toNatClampNeg).toInt64 <<< ((32 : Int32).toInt64 &&& 63)) ||| ((xs (i + 3).toNatClampNeg).toInt64 &&& 4294967295)) := ⟨_, rfl⟩
  obtain ⟨r, bc2, pl2, md2, a2, e1, e2, ok2, rc2, rm2, hd, hn1, hn2, hn3⟩ := x_rule (tr := tr) (tu := tu) (ff := ff) (pl := pl) (lw := lw) ok rc rm v1 v2
  refine lv_aload_n hx hb d_L_law_164 rfl (lv_at hl 2 rfl) ?_
  refine lv_aload_n hx hb d_L_law_165 rfl (lv_at hl 3 rfl) ?_
  refine lv_iload_n hx hb d_L_law_166 rfl (lv_at hl 0 rfl) ?_
  refine lv_iconst (v := 1) hx hb d_L_law_167 (by decide) ?_
  refine lv_iadd hx hb d_L_law_168 ?_
  refine va_sld hx hb hX hbl hbA hS (i := i + 1) (hr 1 (by omega)) d_L_law_169 ?_
  refine rw_i (y := v1) hv1.symm ?_
  refine lv_aload_n hx hb d_L_law_170 rfl (lv_at hl 3 rfl) ?_
  refine lv_iload_n hx hb d_L_law_171 rfl (lv_at hl 0 rfl) ?_
  refine lv_iconst (v := 2) hx hb d_L_law_172 (by decide) ?_
  refine lv_iadd hx hb d_L_law_173 ?_
  refine va_sld hx hb hX hbl hbA hS (i := i + 2) (hr 2 (by omega)) d_L_law_174 ?_
  refine lv_i2l (v := (xs (i + 2).toNatClampNeg).toInt64) hx hb d_L_law_175 rfl ?_
  refine lv_bipush (v := 32) hx hb d_L_law_176 (by decide) ?_
  refine lv_lshl hx hb d_L_law_178 rfl ?_
  refine lv_aload_n hx hb d_L_law_179 rfl (lv_at hl 3 rfl) ?_
  refine lv_iload_n hx hb d_L_law_180 rfl (lv_at hl 0 rfl) ?_
  refine lv_iconst (v := 3) hx hb d_L_law_181 (by decide) ?_
  refine lv_iadd hx hb d_L_law_182 ?_
  refine va_sld hx hb hX hbl hbA hS (i := i + 3) (hr 3 (by omega)) d_L_law_183 ?_
  refine lv_i2l (v := (xs (i + 3).toNatClampNeg).toInt64) hx hb d_L_law_184 rfl ?_
  refine lv_ldc2 (v := 4294967295) hx hb hown (hts _ kK_L_23) d_L_law_185 ?_
  refine lv_land hx hb d_L_law_188 ?_
  refine lv_lor hx hb d_L_law_189 ?_
  refine rw_l (y := v2) hv2.symm ?_
  have hPc := va_P_in (w := (w_Bc_ q1 ad_bc tC rf bc ++ (w_Sg_ (ad_bc 100) ad_sg tC sg ++ (w_Tr_ (ad_bc 104) ad_tr tC tr ++ (w_Tr_ (ad_bc 105) ad_tu tC tu ++ (w_Ff_ (ad_bc 103) ad_ff tC ff ++ (w_Pl_ (ad_bc 101) ad_pl tC pl ++ (w_Lw_ (ad_bc 102) ad_lw tC lw ++ (TAL tC nl hL adL LS ns gS aS nS SS FP hF adF FS))))))))) hP (fun q h => List.mem_append_right _ h)
  have hDc : va_D (lA s) (w_Bc_ q1 ad_bc tC rf bc ++ (w_Sg_ (ad_bc 100) ad_sg tC sg ++ (w_Tr_ (ad_bc 104) ad_tr tC tr ++ (w_Tr_ (ad_bc 105) ad_tu tC tu ++ (w_Ff_ (ad_bc 103) ad_ff tC ff ++ (w_Pl_ (ad_bc 101) ad_pl tC pl ++ (w_Lw_ (ad_bc 102) ad_lw tC lw ++ (TAL tC nl hL adL LS ns gS aS nS SS FP hF adF FS)))))))) := D_r hD
  have hFc : ∀ q, va_A (w_Bc_ q1 ad_bc tC rf bc ++ (w_Sg_ (ad_bc 100) ad_sg tC sg ++ (w_Tr_ (ad_bc 104) ad_tr tC tr ++ (w_Tr_ (ad_bc 105) ad_tu tC tu ++ (w_Ff_ (ad_bc 103) ad_ff tC ff ++ (w_Pl_ (ad_bc 101) ad_pl tC pl ++ (w_Lw_ (ad_bc 102) ad_lw tC lw ++ (TAL tC nl hL adL LS ns gS aS nS SS FP hF adF FS)))))))) _ q → lA s q := va_freeAll hDc hS hA
  refine wr_go (va_runV (As := [.int v1, .long v2]) (rest := []) ⟨hx, hb, hml, hown, hts⟩ (m_Bc_rule l dC dI tC (TAL tC nl hL adL LS ns gS aS nS SS FP hF adF FS) nl hL adL aT nT LS TS FP hF adF FS rf q1 ad_bc bc ad_sg sg ad_tr tr ad_tu tu ad_ff ff ad_pl pl ad_lw lw v1 v2 (r, bc2, sg, tr, tu, ff, pl2, lw) hFM e1 _) (cwV 2 hts (gd_V kM_L_25 kI_Bc_rule kV_Bc_rule kZ_8 kC_Bc_rule) rfl rfl rfl (by decide +kernel) ⟨(by decide +kernel), (by decide +kernel)⟩) ⟨wr_blind, va_recv hK hP (ci := 8) (q0 := 37) rfl rfl, wr_pre hK hPc hDc⟩ rfl rfl hl.1 rfl (lv_room (Nat.le_of_ble_eq_true rfl)) d_L_law_190 ⟨by show _ + 0 ≤ 637990; omega, by show _ + 0 ≤ 7188278; omega⟩) hS hFc (fun r w1 H1 locs hw hP1 hD1 hk1 hS => ?_)
  obtain ⟨rfl, rfl⟩ := hw
  obtain ⟨hP, hD⟩ := jn_A hP hD hk1 hFc hP1 hD1
  clear hP1 hD1 hk1 hPc hDc hFc
  have hP : va_P (dC, dI) vwCl (w_Md_ q2 ad_md tC md ++ (w_Bc_ q1 ad_bc tC rf bc2 ++ (w_Sg_ (ad_bc 100) ad_sg tC sg ++ (w_Tr_ (ad_bc 104) ad_tr tC tr ++ (w_Tr_ (ad_bc 105) ad_tu tC tu ++ (w_Ff_ (ad_bc 103) ad_ff tC ff ++ (w_Pl_ (ad_bc 101) ad_pl tC pl2 ++ (w_Lw_ (ad_bc 102) ad_lw tC lw ++ (TAL tC nl hL adL LS ns gS aS nS SS FP hF adF FS))))))))) _ := hP
  have hD : va_D (lA s) (w_Md_ q2 ad_md tC md ++ (w_Bc_ q1 ad_bc tC rf bc2 ++ (w_Sg_ (ad_bc 100) ad_sg tC sg ++ (w_Tr_ (ad_bc 104) ad_tr tC tr ++ (w_Tr_ (ad_bc 105) ad_tu tC tu ++ (w_Ff_ (ad_bc 103) ad_ff tC ff ++ (w_Pl_ (ad_bc 101) ad_pl tC pl2 ++ (w_Lw_ (ad_bc 102) ad_lw tC lw ++ (TAL tC nl hL adL LS ns gS aS nS SS FP hF adF FS))))))))) := hD
  refine W.eq (g2 := F0 m 193 ls [.int r]) rfl ?_
  refine lv_aload_n hx hb d_L_law_193 rfl (lv_at hl 1 rfl) ?_
  refine lv_aload_n hx hb d_L_law_194 rfl (lv_at hl 3 rfl) ?_
  refine lv_iload_n hx hb d_L_law_195 rfl (lv_at hl 0 rfl) ?_
  refine lv_iconst (v := 1) hx hb d_L_law_196 (by decide) ?_
  refine lv_iadd hx hb d_L_law_197 ?_
  refine va_sld hx hb hX hbl hbA hS (i := i + 1) (hr 1 (by omega)) d_L_law_198 ?_
  refine rw_i (y := v1) hv1.symm ?_
  refine lv_aload_n hx hb d_L_law_199 rfl (lv_at hl 3 rfl) ?_
  refine lv_iload_n hx hb d_L_law_200 rfl (lv_at hl 0 rfl) ?_
  refine lv_iconst (v := 2) hx hb d_L_law_201 (by decide) ?_
  refine lv_iadd hx hb d_L_law_202 ?_
  refine va_sld hx hb hX hbl hbA hS (i := i + 2) (hr 2 (by omega)) d_L_law_203 ?_
  refine lv_i2l (v := (xs (i + 2).toNatClampNeg).toInt64) hx hb d_L_law_204 rfl ?_
  refine lv_bipush (v := 32) hx hb d_L_law_205 (by decide) ?_
  refine lv_lshl hx hb d_L_law_207 rfl ?_
  refine lv_aload_n hx hb d_L_law_208 rfl (lv_at hl 3 rfl) ?_
  refine lv_iload_n hx hb d_L_law_209 rfl (lv_at hl 0 rfl) ?_
  refine lv_iconst (v := 3) hx hb d_L_law_210 (by decide) ?_
  refine lv_iadd hx hb d_L_law_211 ?_
  refine va_sld hx hb hX hbl hbA hS (i := i + 3) (hr 3 (by omega)) d_L_law_212 ?_
  refine lv_i2l (v := (xs (i + 3).toNatClampNeg).toInt64) hx hb d_L_law_213 rfl ?_
  refine lv_ldc2 (v := 4294967295) hx hb hown (hts _ kK_L_23) d_L_law_214 ?_
  refine lv_land hx hb d_L_law_217 ?_
  refine lv_lor hx hb d_L_law_218 ?_
  refine rw_l (y := v2) hv2.symm ?_
  have hPx : va_P (dC, dI) vwCl (([] : va_W) ++ (w_Md_ q2 ad_md tC md ++ (w_Bc_ q1 ad_bc tC rf bc2 ++ (w_Sg_ (ad_bc 100) ad_sg tC sg ++ (w_Tr_ (ad_bc 104) ad_tr tC tr ++ (w_Tr_ (ad_bc 105) ad_tu tC tu ++ (w_Ff_ (ad_bc 103) ad_ff tC ff ++ (w_Pl_ (ad_bc 101) ad_pl tC pl2 ++ (w_Lw_ (ad_bc 102) ad_lw tC lw ++ (TAL tC nl hL adL LS ns gS aS nS SS FP hF adF FS)))))))))) _ := hP
  have hDx : va_D (lA s) (([] : va_W) ++ (w_Md_ q2 ad_md tC md ++ (w_Bc_ q1 ad_bc tC rf bc2 ++ (w_Sg_ (ad_bc 100) ad_sg tC sg ++ (w_Tr_ (ad_bc 104) ad_tr tC tr ++ (w_Tr_ (ad_bc 105) ad_tu tC tu ++ (w_Ff_ (ad_bc 103) ad_ff tC ff ++ (w_Pl_ (ad_bc 101) ad_pl tC pl2 ++ (w_Lw_ (ad_bc 102) ad_lw tC lw ++ (TAL tC nl hL adL LS ns gS aS nS SS FP hF adF FS)))))))))) := hD
  obtain ⟨hPc, hDc, hFc⟩ := bk_cut0 hPx hDx hS hA
  refine wr_go (va_runV (As := [.int v1, .long v2]) (rest := [.int r]) ⟨hx, hb, hml, hown, hts⟩ (m_Md_rule l dC dI tC q2 ad_md md v1 v2 (r, md2) e2 _) (cwV 2 hts (gd_V kM_L_29 kI_Md_rule kV_Md_rule kZ_9 kC_Md_rule) rfl rfl rfl (by decide +kernel) ⟨(by decide +kernel), (by decide +kernel)⟩) ⟨wr_blind, va_recv hK hP (ci := 9) (q0 := 0) rfl rfl, wr_pre hK hPc hDc⟩ rfl rfl hl.1 rfl (lv_room (Nat.le_of_ble_eq_true rfl)) d_L_law_219 ⟨by show _ + 0 ≤ 637990; omega, by show _ + 0 ≤ 7188278; omega⟩) hS hFc (fun r w1 H1 locs hw hP1 hD1 hk1 hS => ?_)
  obtain ⟨rfl, rfl⟩ := hw
  obtain ⟨hP, hD⟩ := bk_join0 (B1 := w_Md_ q2 ad_md tC md2) hPx hDx hk1 hP1 rfl
  clear hP1 hD1 hk1 hPc hDc hFc hPx hDx
  have hP : va_P (dC, dI) vwCl (w_Md_ q2 ad_md tC md2 ++ (w_Bc_ q1 ad_bc tC rf bc2 ++ (w_Sg_ (ad_bc 100) ad_sg tC sg ++ (w_Tr_ (ad_bc 104) ad_tr tC tr ++ (w_Tr_ (ad_bc 105) ad_tu tC tu ++ (w_Ff_ (ad_bc 103) ad_ff tC ff ++ (w_Pl_ (ad_bc 101) ad_pl tC pl2 ++ (w_Lw_ (ad_bc 102) ad_lw tC lw ++ (TAL tC nl hL adL LS ns gS aS nS SS FP hF adF FS))))))))) _ := hP
  have hD : va_D (lA s) (w_Md_ q2 ad_md tC md2 ++ (w_Bc_ q1 ad_bc tC rf bc2 ++ (w_Sg_ (ad_bc 100) ad_sg tC sg ++ (w_Tr_ (ad_bc 104) ad_tr tC tr ++ (w_Tr_ (ad_bc 105) ad_tu tC tu ++ (w_Ff_ (ad_bc 103) ad_ff tC ff ++ (w_Pl_ (ad_bc 101) ad_pl tC pl2 ++ (w_Lw_ (ad_bc 102) ad_lw tC lw ++ (TAL tC nl hL adL LS ns gS aS nS SS FP hF adF FS))))))))) := hD
  refine W.eq (g2 := F0 m 222 ls [.int r, .int r]) rfl ?_
  refine lv_icmp_eq (tgt := 1006) hx hb d_L_law_222 (by decide) (fun _ => ?_) (fun c9 => absurd rfl c9)
  refine W.widen (k := C + 3) (n := S + 43) (by omega) (by omega) ?_
  have hpl2 : PL a2 pl2 md2 := hd.elim (fun h => by rw [h.1, h.2.2.1, h.2.2.2]; exact hpl) (fun h => Or.inl h)
  exact K _ _ hS ⟨a2, ad_bc, ad_sg, ad_tr, ad_tu, ad_ff, ad_pl, ad_lw, ad_md, bc2, sg, tr, tu, ff, pl2, lw, md2, nl, hL, adL, aT, nT, LS, TS, FP, hF, adF, FS, rf, ns, gS, aS, nS, SS, sh, hP, hD, hFX, ok2, rc2, rm2, (fun j hj => by have h9 := rs j (by rw [← hn1]; exact hj); rw [hn2, hn3]; exact h9), hpl2, (by rw [hns, hn1])⟩
set_option maxHeartbeats 4000000 in
set_option maxRecDepth 100000 in
theorem law_5 {p : Program} {l : Launch} {e : Env} {s : State} {m : MethodId} {b L : Nat} {xs : Nat → Int32} {below : List Frame} {meth : Method} {c : Code} {Q : State → Prop} {dC : Nat → ClassId} {dI : Nat → Nat → Nat} {tC : Nat → ClassId} {q1 q2 : Nat} (h0 : LH p s m c b L xs dC dI tC) {H : Heap} {locs : List Loc} (hS : va_S (lA s) s.heap H locs) (hi : LInv s dC dI tC q1 q2 H) {i : Int32} (hr : ∀ k : Nat, k < 8 → vp_in (i + Int32.ofNat k) L) {C S : Nat} (hC : C + 3 ≤ 637990) (hC2 : S + 43 ≤ 7188278) {ls : Array Slot} (hl : lv_has ls 4 [(3, .int i), (2, .ref q2), (1, .ref q1), (0, .ref b)]) (K : ∀ (H : Heap) (locs : List Loc), va_S (lA s) s.heap H locs → LInv s dC dI tC q1 q2 H → W p l e room_1 s m #[Value.ref b] below meth c H locs (C + 3) (S + 43) Q (F0 m 1006 ls [])) : W p l e room_1 s m #[Value.ref b] below meth c H locs C S Q (F0 m 343 ls []) := by
  obtain ⟨hx, hb, hml, hown, hts, hX, hbl, hK, hN⟩ := h0
  have hA : ∀ q : Nat, s.heap.size ≤ q → lA s q := fun _ h => h
  have hbA : ¬ lA s b := Nat.not_le.mpr hbl
  obtain ⟨a, ad_bc, ad_sg, ad_tr, ad_tu, ad_ff, ad_pl, ad_lw, ad_md, bc, sg, tr, tu, ff, pl, lw, md, nl, hL, adL, aT, nT, LS, TS, FP, hF, adF, FS, rf, ns, gS, aS, nS, SS, sh, hP, hD, hFX, ok, rc, rm, rs, hpl, hns⟩ := hi
  have hFM : FM tC (TAL tC nl hL adL LS ns gS aS nS SS FP hF adF FS) nl hL adL aT nT LS TS FP hF adF FS rf := hFX.fm (fun _ h => h)
  obtain ⟨v1, hv1⟩ : ∃ z : Int32, z = (xs (i + 1).toNatClampNeg) := ⟨_, rfl⟩
  obtain ⟨v2, hv2⟩ : ∃ z : Int32, z = (xs (i + 2).toNatClampNeg) := ⟨_, rfl⟩
  obtain ⟨r, e1, e2⟩ := x_length (tr := tr) (tu := tu) (ff := ff) (pl := pl) (lw := lw) ok rc rm v1 v2
  refine lv_aload_n hx hb d_L_law_343 rfl (lv_at hl 2 rfl) ?_
  refine lv_aload_n hx hb d_L_law_344 rfl (lv_at hl 3 rfl) ?_
  refine lv_iload_n hx hb d_L_law_345 rfl (lv_at hl 0 rfl) ?_
  refine lv_iconst (v := 1) hx hb d_L_law_346 (by decide) ?_
  refine lv_iadd hx hb d_L_law_347 ?_
  refine va_sld hx hb hX hbl hbA hS (i := i + 1) (hr 1 (by omega)) d_L_law_348 ?_
  refine rw_i (y := v1) hv1.symm ?_
  refine lv_aload_n hx hb d_L_law_349 rfl (lv_at hl 3 rfl) ?_
  refine lv_iload_n hx hb d_L_law_350 rfl (lv_at hl 0 rfl) ?_
  refine lv_iconst (v := 2) hx hb d_L_law_351 (by decide) ?_
  refine lv_iadd hx hb d_L_law_352 ?_
  refine va_sld hx hb hX hbl hbA hS (i := i + 2) (hr 2 (by omega)) d_L_law_353 ?_
  refine rw_i (y := v2) hv2.symm ?_
  refine ro_go rfl (va_runV (As := [.int v1, .int v2]) (rest := []) ⟨hx, hb, hml, hown, hts⟩ (m_Bc_length l dC dI tC (TAL tC nl hL adL LS ns gS aS nS SS FP hF adF FS) nl hL adL aT nT LS TS FP hF adF FS rf q1 ad_bc bc ad_sg sg ad_tr tr ad_tu tu ad_ff ff ad_pl pl ad_lw lw v1 v2 r _ hFM (va_P_in hP (fun q h => List.mem_append_right _ h)) e1) (cwV 2 hts (gd_V kM_L_40 kI_Bc_length kV_Bc_length kZ_8 kC_Bc_length) rfl rfl rfl (by decide +kernel) ⟨(by decide +kernel), (by decide +kernel)⟩) ⟨ro_blind, va_recv hK hP (ci := 8) (q0 := 37) rfl rfl, ro_pre hK⟩ rfl rfl hl.1 rfl (lv_room (Nat.le_of_ble_eq_true rfl)) d_L_law_354 ⟨by show _ + 0 ≤ 637990; omega, by show _ + 0 ≤ 7188278; omega⟩) ?_
  refine W.eq (g2 := F0 m 357 ls [.long r]) rfl ?_
  refine lv_aload_n hx hb d_L_law_357 rfl (lv_at hl 1 rfl) ?_
  refine lv_aload_n hx hb d_L_law_358 rfl (lv_at hl 3 rfl) ?_
  refine lv_iload_n hx hb d_L_law_359 rfl (lv_at hl 0 rfl) ?_
  refine lv_iconst (v := 1) hx hb d_L_law_360 (by decide) ?_
  refine lv_iadd hx hb d_L_law_361 ?_
  refine va_sld hx hb hX hbl hbA hS (i := i + 1) (hr 1 (by omega)) d_L_law_362 ?_
  refine rw_i (y := v1) hv1.symm ?_
  refine lv_aload_n hx hb d_L_law_363 rfl (lv_at hl 3 rfl) ?_
  refine lv_iload_n hx hb d_L_law_364 rfl (lv_at hl 0 rfl) ?_
  refine lv_iconst (v := 2) hx hb d_L_law_365 (by decide) ?_
  refine lv_iadd hx hb d_L_law_366 ?_
  refine va_sld hx hb hX hbl hbA hS (i := i + 2) (hr 2 (by omega)) d_L_law_367 ?_
  refine rw_i (y := v2) hv2.symm ?_
  refine ro_go rfl (va_runV (As := [.int v1, .int v2]) (rest := [.long r]) ⟨hx, hb, hml, hown, hts⟩ (m_Md_length l dC dI tC q2 ad_md md v1 v2 r _ (va_P_in hP (fun q h => List.mem_append_left _ h)) e2) (cwV 2 hts (gd_V kM_L_44 kI_Md_length kV_Md_length kZ_9 kC_Md_length) rfl rfl rfl (by decide +kernel) ⟨(by decide +kernel), (by decide +kernel)⟩) ⟨ro_blind, va_recv hK hP (ci := 9) (q0 := 0) rfl rfl, ro_pre hK⟩ rfl rfl hl.1 rfl (lv_room (Nat.le_of_ble_eq_true rfl)) d_L_law_368 ⟨by show _ + 0 ≤ 637990; omega, by show _ + 0 ≤ 7188278; omega⟩) ?_
  refine W.eq (g2 := F0 m 371 ls [.long r, .long r]) rfl ?_
  refine W.lcmp hx hb d_L_law_371 ?_
  refine lv_if_eq (tgt := 1006) hx hb d_L_law_372 (by decide) (fun _ => ?_) (fun c9 => absurd ((lg_cmp_eq _ _).mpr rfl) c9)
  refine W.widen (k := C + 3) (n := S + 43) (by omega) (by omega) ?_
  exact K _ _ hS ⟨a, ad_bc, ad_sg, ad_tr, ad_tu, ad_ff, ad_pl, ad_lw, ad_md, bc, sg, tr, tu, ff, pl, lw, md, nl, hL, adL, aT, nT, LS, TS, FP, hF, adF, FS, rf, ns, gS, aS, nS, SS, sh, hP, hD, hFX, ok, rc, rm, rs, hpl, hns⟩
set_option maxHeartbeats 4000000 in
set_option maxRecDepth 100000 in
theorem law_7 {p : Program} {l : Launch} {e : Env} {s : State} {m : MethodId} {b L : Nat} {xs : Nat → Int32} {below : List Frame} {meth : Method} {c : Code} {Q : State → Prop} {dC : Nat → ClassId} {dI : Nat → Nat → Nat} {tC : Nat → ClassId} {q1 q2 : Nat} (h0 : LH p s m c b L xs dC dI tC) {H : Heap} {locs : List Loc} (hS : va_S (lA s) s.heap H locs) (hi : LInv s dC dI tC q1 q2 H) {i : Int32} (hr : ∀ k : Nat, k < 8 → vp_in (i + Int32.ofNat k) L) {C S : Nat} (hC : C + 3 ≤ 637990) (hC2 : S + 43 ≤ 7188278) {ls : Array Slot} (hl : lv_has ls 4 [(3, .int i), (2, .ref q2), (1, .ref q1), (0, .ref b)]) (K : ∀ (H : Heap) (locs : List Loc), va_S (lA s) s.heap H locs → LInv s dC dI tC q1 q2 H → W p l e room_1 s m #[Value.ref b] below meth c H locs (C + 3) (S + 43) Q (F0 m 1006 ls [])) : W p l e room_1 s m #[Value.ref b] below meth c H locs C S Q (F0 m 450 ls []) := by
  obtain ⟨hx, hb, hml, hown, hts, hX, hbl, hK, hN⟩ := h0
  have hA : ∀ q : Nat, s.heap.size ≤ q → lA s q := fun _ h => h
  have hbA : ¬ lA s b := Nat.not_le.mpr hbl
  obtain ⟨a, ad_bc, ad_sg, ad_tr, ad_tu, ad_ff, ad_pl, ad_lw, ad_md, bc, sg, tr, tu, ff, pl, lw, md, nl, hL, adL, aT, nT, LS, TS, FP, hF, adF, FS, rf, ns, gS, aS, nS, SS, sh, hP, hD, hFX, ok, rc, rm, rs, hpl, hns⟩ := hi
  have hFM : FM tC (TAL tC nl hL adL LS ns gS aS nS SS FP hF adF FS) nl hL adL aT nT LS TS FP hF adF FS rf := hFX.fm (fun _ h => h)
  obtain ⟨v1, hv1⟩ : ∃ z : Int64, z = (((xs (i + 1).toNatClampNeg).toInt64 <<< ((32 : Int32).toInt64 &&& 63)) ||| ((xs (i + 2).toNatClampNeg).toInt64 &&& 4294967295)) := ⟨_, rfl⟩
  obtain ⟨r, ff2, pl2, lw2, md2, e1, e2, rm2, hd⟩ := x_run (tr := tr) (tu := tu) (ff := ff) (pl := pl) (lw := lw) ok rc rm v1
  refine lv_aload_n hx hb d_L_law_450 rfl (lv_at hl 2 rfl) ?_
  refine lv_aload_n hx hb d_L_law_451 rfl (lv_at hl 3 rfl) ?_
  refine lv_iload_n hx hb d_L_law_452 rfl (lv_at hl 0 rfl) ?_
  refine lv_iconst (v := 1) hx hb d_L_law_453 (by decide) ?_
  refine lv_iadd hx hb d_L_law_454 ?_
  refine va_sld hx hb hX hbl hbA hS (i := i + 1) (hr 1 (by omega)) d_L_law_455 ?_
  refine lv_i2l (v := (xs (i + 1).toNatClampNeg).toInt64) hx hb d_L_law_456 rfl ?_
  refine lv_bipush (v := 32) hx hb d_L_law_457 (by decide) ?_
  refine lv_lshl hx hb d_L_law_459 rfl ?_
  refine lv_aload_n hx hb d_L_law_460 rfl (lv_at hl 3 rfl) ?_
  refine lv_iload_n hx hb d_L_law_461 rfl (lv_at hl 0 rfl) ?_
  refine lv_iconst (v := 2) hx hb d_L_law_462 (by decide) ?_
  refine lv_iadd hx hb d_L_law_463 ?_
  refine va_sld hx hb hX hbl hbA hS (i := i + 2) (hr 2 (by omega)) d_L_law_464 ?_
  refine lv_i2l (v := (xs (i + 2).toNatClampNeg).toInt64) hx hb d_L_law_465 rfl ?_
  refine lv_ldc2 (v := 4294967295) hx hb hown (hts _ kK_L_23) d_L_law_466 ?_
  refine lv_land hx hb d_L_law_469 ?_
  refine lv_lor hx hb d_L_law_470 ?_
  refine rw_l (y := v1) hv1.symm ?_
  have hPc := va_P_in (w := (w_Bc_ q1 ad_bc tC rf bc ++ (w_Sg_ (ad_bc 100) ad_sg tC sg ++ (w_Tr_ (ad_bc 104) ad_tr tC tr ++ (w_Tr_ (ad_bc 105) ad_tu tC tu ++ (w_Ff_ (ad_bc 103) ad_ff tC ff ++ (w_Pl_ (ad_bc 101) ad_pl tC pl ++ (w_Lw_ (ad_bc 102) ad_lw tC lw ++ (TAL tC nl hL adL LS ns gS aS nS SS FP hF adF FS))))))))) hP (fun q h => List.mem_append_right _ h)
  have hDc : va_D (lA s) (w_Bc_ q1 ad_bc tC rf bc ++ (w_Sg_ (ad_bc 100) ad_sg tC sg ++ (w_Tr_ (ad_bc 104) ad_tr tC tr ++ (w_Tr_ (ad_bc 105) ad_tu tC tu ++ (w_Ff_ (ad_bc 103) ad_ff tC ff ++ (w_Pl_ (ad_bc 101) ad_pl tC pl ++ (w_Lw_ (ad_bc 102) ad_lw tC lw ++ (TAL tC nl hL adL LS ns gS aS nS SS FP hF adF FS)))))))) := D_r hD
  have hFc : ∀ q, va_A (w_Bc_ q1 ad_bc tC rf bc ++ (w_Sg_ (ad_bc 100) ad_sg tC sg ++ (w_Tr_ (ad_bc 104) ad_tr tC tr ++ (w_Tr_ (ad_bc 105) ad_tu tC tu ++ (w_Ff_ (ad_bc 103) ad_ff tC ff ++ (w_Pl_ (ad_bc 101) ad_pl tC pl ++ (w_Lw_ (ad_bc 102) ad_lw tC lw ++ (TAL tC nl hL adL LS ns gS aS nS SS FP hF adF FS)))))))) _ q → lA s q := va_freeAll hDc hS hA
  refine wr_go (va_runV (As := [.long v1]) (rest := []) ⟨hx, hb, hml, hown, hts⟩ (m_Bc_run l dC dI tC (TAL tC nl hL adL LS ns gS aS nS SS FP hF adF FS) nl hL adL aT nT LS TS FP hF adF FS rf q1 ad_bc bc ad_sg sg ad_tr tr ad_tu tu ad_ff ff ad_pl pl ad_lw lw v1 (r, bc, sg, tr, tu, ff2, pl2, lw2) hFM e1 _) (cwV 1 hts (gd_V kM_L_50 kI_Bc_run kV_Bc_run kZ_8 kC_Bc_run) rfl rfl rfl (by decide +kernel) ⟨(by decide +kernel), (by decide +kernel)⟩) ⟨wr_blind, va_recv hK hP (ci := 8) (q0 := 37) rfl rfl, wr_pre hK hPc hDc⟩ rfl rfl hl.1 rfl (lv_room (Nat.le_of_ble_eq_true rfl)) d_L_law_471 ⟨by show _ + 0 ≤ 637990; omega, by show _ + 0 ≤ 7188278; omega⟩) hS hFc (fun r w1 H1 locs hw hP1 hD1 hk1 hS => ?_)
  obtain ⟨rfl, rfl⟩ := hw
  obtain ⟨hP, hD⟩ := jn_A hP hD hk1 hFc hP1 hD1
  clear hP1 hD1 hk1 hPc hDc hFc
  have hP : va_P (dC, dI) vwCl (w_Md_ q2 ad_md tC md ++ (w_Bc_ q1 ad_bc tC rf bc ++ (w_Sg_ (ad_bc 100) ad_sg tC sg ++ (w_Tr_ (ad_bc 104) ad_tr tC tr ++ (w_Tr_ (ad_bc 105) ad_tu tC tu ++ (w_Ff_ (ad_bc 103) ad_ff tC ff2 ++ (w_Pl_ (ad_bc 101) ad_pl tC pl2 ++ (w_Lw_ (ad_bc 102) ad_lw tC lw2 ++ (TAL tC nl hL adL LS ns gS aS nS SS FP hF adF FS))))))))) _ := hP
  have hD : va_D (lA s) (w_Md_ q2 ad_md tC md ++ (w_Bc_ q1 ad_bc tC rf bc ++ (w_Sg_ (ad_bc 100) ad_sg tC sg ++ (w_Tr_ (ad_bc 104) ad_tr tC tr ++ (w_Tr_ (ad_bc 105) ad_tu tC tu ++ (w_Ff_ (ad_bc 103) ad_ff tC ff2 ++ (w_Pl_ (ad_bc 101) ad_pl tC pl2 ++ (w_Lw_ (ad_bc 102) ad_lw tC lw2 ++ (TAL tC nl hL adL LS ns gS aS nS SS FP hF adF FS))))))))) := hD
  refine W.eq (g2 := F0 m 474 ls [.int r]) rfl ?_
  refine lv_aload_n hx hb d_L_law_474 rfl (lv_at hl 1 rfl) ?_
  refine lv_aload_n hx hb d_L_law_475 rfl (lv_at hl 3 rfl) ?_
  refine lv_iload_n hx hb d_L_law_476 rfl (lv_at hl 0 rfl) ?_
  refine lv_iconst (v := 1) hx hb d_L_law_477 (by decide) ?_
  refine lv_iadd hx hb d_L_law_478 ?_
  refine va_sld hx hb hX hbl hbA hS (i := i + 1) (hr 1 (by omega)) d_L_law_479 ?_
  refine lv_i2l (v := (xs (i + 1).toNatClampNeg).toInt64) hx hb d_L_law_480 rfl ?_
  refine lv_bipush (v := 32) hx hb d_L_law_481 (by decide) ?_
  refine lv_lshl hx hb d_L_law_483 rfl ?_
  refine lv_aload_n hx hb d_L_law_484 rfl (lv_at hl 3 rfl) ?_
  refine lv_iload_n hx hb d_L_law_485 rfl (lv_at hl 0 rfl) ?_
  refine lv_iconst (v := 2) hx hb d_L_law_486 (by decide) ?_
  refine lv_iadd hx hb d_L_law_487 ?_
  refine va_sld hx hb hX hbl hbA hS (i := i + 2) (hr 2 (by omega)) d_L_law_488 ?_
  refine lv_i2l (v := (xs (i + 2).toNatClampNeg).toInt64) hx hb d_L_law_489 rfl ?_
  refine lv_ldc2 (v := 4294967295) hx hb hown (hts _ kK_L_23) d_L_law_490 ?_
  refine lv_land hx hb d_L_law_493 ?_
  refine lv_lor hx hb d_L_law_494 ?_
  refine rw_l (y := v1) hv1.symm ?_
  have hPx : va_P (dC, dI) vwCl (([] : va_W) ++ (w_Md_ q2 ad_md tC md ++ (w_Bc_ q1 ad_bc tC rf bc ++ (w_Sg_ (ad_bc 100) ad_sg tC sg ++ (w_Tr_ (ad_bc 104) ad_tr tC tr ++ (w_Tr_ (ad_bc 105) ad_tu tC tu ++ (w_Ff_ (ad_bc 103) ad_ff tC ff2 ++ (w_Pl_ (ad_bc 101) ad_pl tC pl2 ++ (w_Lw_ (ad_bc 102) ad_lw tC lw2 ++ (TAL tC nl hL adL LS ns gS aS nS SS FP hF adF FS)))))))))) _ := hP
  have hDx : va_D (lA s) (([] : va_W) ++ (w_Md_ q2 ad_md tC md ++ (w_Bc_ q1 ad_bc tC rf bc ++ (w_Sg_ (ad_bc 100) ad_sg tC sg ++ (w_Tr_ (ad_bc 104) ad_tr tC tr ++ (w_Tr_ (ad_bc 105) ad_tu tC tu ++ (w_Ff_ (ad_bc 103) ad_ff tC ff2 ++ (w_Pl_ (ad_bc 101) ad_pl tC pl2 ++ (w_Lw_ (ad_bc 102) ad_lw tC lw2 ++ (TAL tC nl hL adL LS ns gS aS nS SS FP hF adF FS)))))))))) := hD
  obtain ⟨hPc, hDc, hFc⟩ := bk_cut0 hPx hDx hS hA
  refine wr_go (va_runV (As := [.long v1]) (rest := [.int r]) ⟨hx, hb, hml, hown, hts⟩ (m_Md_run l dC dI tC q2 ad_md md v1 (r, md2) e2 _) (cwV 1 hts (gd_V kM_L_54 kI_Md_run kV_Md_run kZ_9 kC_Md_run) rfl rfl rfl (by decide +kernel) ⟨(by decide +kernel), (by decide +kernel)⟩) ⟨wr_blind, va_recv hK hP (ci := 9) (q0 := 0) rfl rfl, wr_pre hK hPc hDc⟩ rfl rfl hl.1 rfl (lv_room (Nat.le_of_ble_eq_true rfl)) d_L_law_495 ⟨by show _ + 0 ≤ 637990; omega, by show _ + 0 ≤ 7188278; omega⟩) hS hFc (fun r w1 H1 locs hw hP1 hD1 hk1 hS => ?_)
  obtain ⟨rfl, rfl⟩ := hw
  obtain ⟨hP, hD⟩ := bk_join0 (B1 := w_Md_ q2 ad_md tC md2) hPx hDx hk1 hP1 rfl
  clear hP1 hD1 hk1 hPc hDc hFc hPx hDx
  have hP : va_P (dC, dI) vwCl (w_Md_ q2 ad_md tC md2 ++ (w_Bc_ q1 ad_bc tC rf bc ++ (w_Sg_ (ad_bc 100) ad_sg tC sg ++ (w_Tr_ (ad_bc 104) ad_tr tC tr ++ (w_Tr_ (ad_bc 105) ad_tu tC tu ++ (w_Ff_ (ad_bc 103) ad_ff tC ff2 ++ (w_Pl_ (ad_bc 101) ad_pl tC pl2 ++ (w_Lw_ (ad_bc 102) ad_lw tC lw2 ++ (TAL tC nl hL adL LS ns gS aS nS SS FP hF adF FS))))))))) _ := hP
  have hD : va_D (lA s) (w_Md_ q2 ad_md tC md2 ++ (w_Bc_ q1 ad_bc tC rf bc ++ (w_Sg_ (ad_bc 100) ad_sg tC sg ++ (w_Tr_ (ad_bc 104) ad_tr tC tr ++ (w_Tr_ (ad_bc 105) ad_tu tC tu ++ (w_Ff_ (ad_bc 103) ad_ff tC ff2 ++ (w_Pl_ (ad_bc 101) ad_pl tC pl2 ++ (w_Lw_ (ad_bc 102) ad_lw tC lw2 ++ (TAL tC nl hL adL LS ns gS aS nS SS FP hF adF FS))))))))) := hD
  refine W.eq (g2 := F0 m 498 ls [.int r, .int r]) rfl ?_
  refine lv_icmp_eq (tgt := 1006) hx hb d_L_law_498 (by decide) (fun _ => ?_) (fun c9 => absurd rfl c9)
  refine W.widen (k := C + 3) (n := S + 43) (by omega) (by omega) ?_
  have hpl2 : PL a pl2 md2 := hd.elim (fun h => by rw [h.1, h.2]; exact hpl) id
  exact K _ _ hS ⟨a, ad_bc, ad_sg, ad_tr, ad_tu, ad_ff, ad_pl, ad_lw, ad_md, bc, sg, tr, tu, ff2, pl2, lw2, md2, nl, hL, adL, aT, nT, LS, TS, FP, hF, adF, FS, rf, ns, gS, aS, nS, SS, sh, hP, hD, hFX, ok, rc, rm2, rs, hpl2, hns⟩
set_option maxHeartbeats 4000000 in
set_option maxRecDepth 100000 in
theorem law_8 {p : Program} {l : Launch} {e : Env} {s : State} {m : MethodId} {b L : Nat} {xs : Nat → Int32} {below : List Frame} {meth : Method} {c : Code} {Q : State → Prop} {dC : Nat → ClassId} {dI : Nat → Nat → Nat} {tC : Nat → ClassId} {q1 q2 : Nat} (h0 : LH p s m c b L xs dC dI tC) {H : Heap} {locs : List Loc} (hS : va_S (lA s) s.heap H locs) (hi : LInv s dC dI tC q1 q2 H) {i : Int32} (hr : ∀ k : Nat, k < 8 → vp_in (i + Int32.ofNat k) L) {C S : Nat} (hC : C + 3 ≤ 637990) (hC2 : S + 43 ≤ 7188278) {ls : Array Slot} (hl : lv_has ls 4 [(3, .int i), (2, .ref q2), (1, .ref q1), (0, .ref b)]) (K : ∀ (H : Heap) (locs : List Loc), va_S (lA s) s.heap H locs → LInv s dC dI tC q1 q2 H → W p l e room_1 s m #[Value.ref b] below meth c H locs (C + 3) (S + 43) Q (F0 m 1006 ls [])) : W p l e room_1 s m #[Value.ref b] below meth c H locs C S Q (F0 m 503 ls []) := by
  obtain ⟨hx, hb, hml, hown, hts, hX, hbl, hK, hN⟩ := h0
  have hA : ∀ q : Nat, s.heap.size ≤ q → lA s q := fun _ h => h
  have hbA : ¬ lA s b := Nat.not_le.mpr hbl
  obtain ⟨a, ad_bc, ad_sg, ad_tr, ad_tu, ad_ff, ad_pl, ad_lw, ad_md, bc, sg, tr, tu, ff, pl, lw, md, nl, hL, adL, aT, nT, LS, TS, FP, hF, adF, FS, rf, ns, gS, aS, nS, SS, sh, hP, hD, hFX, ok, rc, rm, rs, hpl, hns⟩ := hi
  have hFM : FM tC (TAL tC nl hL adL LS ns gS aS nS SS FP hF adF FS) nl hL adL aT nT LS TS FP hF adF FS rf := hFX.fm (fun _ h => h)
  obtain ⟨v1, hv1⟩ : ∃ z : Int32, z = (xs (i + 1).toNatClampNeg) := ⟨_, rfl⟩
  obtain ⟨r, e1, e2⟩ := x_loss (nl := nl) (nT := nT) (LS := LS) (TS := TS) (FP := FP) (FS := FS) (bc := bc) (sg := sg) (tr := tr) (tu := tu) (ff := ff) (lw := lw) ok rm hpl v1
  refine lv_aload_n hx hb d_L_law_503 rfl (lv_at hl 2 rfl) ?_
  refine lv_aload_n hx hb d_L_law_504 rfl (lv_at hl 3 rfl) ?_
  refine lv_iload_n hx hb d_L_law_505 rfl (lv_at hl 0 rfl) ?_
  refine lv_iconst (v := 1) hx hb d_L_law_506 (by decide) ?_
  refine lv_iadd hx hb d_L_law_507 ?_
  refine va_sld hx hb hX hbl hbA hS (i := i + 1) (hr 1 (by omega)) d_L_law_508 ?_
  refine rw_i (y := v1) hv1.symm ?_
  refine ro_go rfl (va_runV (As := [.int v1]) (rest := []) ⟨hx, hb, hml, hown, hts⟩ (m_Bc_loss l dC dI tC (TAL tC nl hL adL LS ns gS aS nS SS FP hF adF FS) nl hL adL aT nT LS TS FP hF adF FS rf q1 ad_bc bc ad_sg sg ad_tr tr ad_tu tu ad_ff ff ad_pl pl ad_lw lw v1 r _ hFM (va_P_in hP (fun q h => List.mem_append_right _ h)) e1) (cwV 1 hts (gd_V kM_L_55 kI_Bc_loss kV_Bc_loss kZ_8 kC_Bc_loss) rfl rfl rfl (by decide +kernel) ⟨(by decide +kernel), (by decide +kernel)⟩) ⟨ro_blind, va_recv hK hP (ci := 8) (q0 := 37) rfl rfl, ro_pre hK⟩ rfl rfl hl.1 rfl (lv_room (Nat.le_of_ble_eq_true rfl)) d_L_law_509 ⟨by show _ + 0 ≤ 637990; omega, by show _ + 0 ≤ 7188278; omega⟩) ?_
  refine W.eq (g2 := F0 m 512 ls [.long r]) rfl ?_
  refine lv_aload_n hx hb d_L_law_512 rfl (lv_at hl 1 rfl) ?_
  refine lv_aload_n hx hb d_L_law_513 rfl (lv_at hl 3 rfl) ?_
  refine lv_iload_n hx hb d_L_law_514 rfl (lv_at hl 0 rfl) ?_
  refine lv_iconst (v := 1) hx hb d_L_law_515 (by decide) ?_
  refine lv_iadd hx hb d_L_law_516 ?_
  refine va_sld hx hb hX hbl hbA hS (i := i + 1) (hr 1 (by omega)) d_L_law_517 ?_
  refine rw_i (y := v1) hv1.symm ?_
  refine ro_go rfl (va_runV (As := [.int v1]) (rest := [.long r]) ⟨hx, hb, hml, hown, hts⟩ (m_Md_loss l dC dI tC q2 ad_md md v1 r _ (va_P_in hP (fun q h => List.mem_append_left _ h)) e2) (cwV 1 hts (gd_V kM_L_59 kI_Md_loss kV_Md_loss kZ_9 kC_Md_loss) rfl rfl rfl (by decide +kernel) ⟨(by decide +kernel), (by decide +kernel)⟩) ⟨ro_blind, va_recv hK hP (ci := 9) (q0 := 0) rfl rfl, ro_pre hK⟩ rfl rfl hl.1 rfl (lv_room (Nat.le_of_ble_eq_true rfl)) d_L_law_518 ⟨by show _ + 0 ≤ 637990; omega, by show _ + 0 ≤ 7188278; omega⟩) ?_
  refine W.eq (g2 := F0 m 521 ls [.long r, .long r]) rfl ?_
  refine W.lcmp hx hb d_L_law_521 ?_
  refine lv_if_eq (tgt := 1006) hx hb d_L_law_522 (by decide) (fun _ => ?_) (fun c9 => absurd ((lg_cmp_eq _ _).mpr rfl) c9)
  refine W.widen (k := C + 3) (n := S + 43) (by omega) (by omega) ?_
  exact K _ _ hS ⟨a, ad_bc, ad_sg, ad_tr, ad_tu, ad_ff, ad_pl, ad_lw, ad_md, bc, sg, tr, tu, ff, pl, lw, md, nl, hL, adL, aT, nT, LS, TS, FP, hF, adF, FS, rf, ns, gS, aS, nS, SS, sh, hP, hD, hFX, ok, rc, rm, rs, hpl, hns⟩
set_option maxHeartbeats 4000000 in
set_option maxRecDepth 100000 in
theorem law_9 {p : Program} {l : Launch} {e : Env} {s : State} {m : MethodId} {b L : Nat} {xs : Nat → Int32} {below : List Frame} {meth : Method} {c : Code} {Q : State → Prop} {dC : Nat → ClassId} {dI : Nat → Nat → Nat} {tC : Nat → ClassId} {q1 q2 : Nat} (h0 : LH p s m c b L xs dC dI tC) {H : Heap} {locs : List Loc} (hS : va_S (lA s) s.heap H locs) (hi : LInv s dC dI tC q1 q2 H) {i : Int32} (hr : ∀ k : Nat, k < 8 → vp_in (i + Int32.ofNat k) L) {C S : Nat} (hC : C + 3 ≤ 637990) (hC2 : S + 43 ≤ 7188278) {ls : Array Slot} (hl : lv_has ls 4 [(3, .int i), (2, .ref q2), (1, .ref q1), (0, .ref b)]) (K : ∀ (H : Heap) (locs : List Loc), va_S (lA s) s.heap H locs → LInv s dC dI tC q1 q2 H → W p l e room_1 s m #[Value.ref b] below meth c H locs (C + 3) (S + 43) Q (F0 m 1006 ls [])) : W p l e room_1 s m #[Value.ref b] below meth c H locs C S Q (F0 m 527 ls []) := by
  obtain ⟨hx, hb, hml, hown, hts, hX, hbl, hK, hN⟩ := h0
  have hA : ∀ q : Nat, s.heap.size ≤ q → lA s q := fun _ h => h
  have hbA : ¬ lA s b := Nat.not_le.mpr hbl
  obtain ⟨a, ad_bc, ad_sg, ad_tr, ad_tu, ad_ff, ad_pl, ad_lw, ad_md, bc, sg, tr, tu, ff, pl, lw, md, nl, hL, adL, aT, nT, LS, TS, FP, hF, adF, FS, rf, ns, gS, aS, nS, SS, sh, hP, hD, hFX, ok, rc, rm, rs, hpl, hns⟩ := hi
  have hFM : FM tC (TAL tC nl hL adL LS ns gS aS nS SS FP hF adF FS) nl hL adL aT nT LS TS FP hF adF FS rf := hFX.fm (fun _ h => h)
  obtain ⟨v1, hv1⟩ : ∃ z : Int32, z = (xs (i + 1).toNatClampNeg) := ⟨_, rfl⟩
  obtain ⟨r, e1, e2⟩ := x_bound (nl := nl) (nT := nT) (LS := LS) (TS := TS) (FP := FP) (FS := FS) (bc := bc) (sg := sg) (tr := tr) (tu := tu) (ff := ff) (lw := lw) ok rm hpl v1
  refine lv_aload_n hx hb d_L_law_527 rfl (lv_at hl 2 rfl) ?_
  refine lv_aload_n hx hb d_L_law_528 rfl (lv_at hl 3 rfl) ?_
  refine lv_iload_n hx hb d_L_law_529 rfl (lv_at hl 0 rfl) ?_
  refine lv_iconst (v := 1) hx hb d_L_law_530 (by decide) ?_
  refine lv_iadd hx hb d_L_law_531 ?_
  refine va_sld hx hb hX hbl hbA hS (i := i + 1) (hr 1 (by omega)) d_L_law_532 ?_
  refine rw_i (y := v1) hv1.symm ?_
  refine ro_go rfl (va_runV (As := [.int v1]) (rest := []) ⟨hx, hb, hml, hown, hts⟩ (m_Bc_bound l dC dI tC (TAL tC nl hL adL LS ns gS aS nS SS FP hF adF FS) nl hL adL aT nT LS TS FP hF adF FS rf q1 ad_bc bc ad_sg sg ad_tr tr ad_tu tu ad_ff ff ad_pl pl ad_lw lw v1 r _ hFM (va_P_in hP (fun q h => List.mem_append_right _ h)) e1) (cwV 1 hts (gd_V kM_L_60 kI_Bc_bound kV_Bc_bound kZ_8 kC_Bc_bound) rfl rfl rfl (by decide +kernel) ⟨(by decide +kernel), (by decide +kernel)⟩) ⟨ro_blind, va_recv hK hP (ci := 8) (q0 := 37) rfl rfl, ro_pre hK⟩ rfl rfl hl.1 rfl (lv_room (Nat.le_of_ble_eq_true rfl)) d_L_law_533 ⟨by show _ + 0 ≤ 637990; omega, by show _ + 0 ≤ 7188278; omega⟩) ?_
  refine W.eq (g2 := F0 m 536 ls [.long r]) rfl ?_
  refine lv_aload_n hx hb d_L_law_536 rfl (lv_at hl 1 rfl) ?_
  refine lv_aload_n hx hb d_L_law_537 rfl (lv_at hl 3 rfl) ?_
  refine lv_iload_n hx hb d_L_law_538 rfl (lv_at hl 0 rfl) ?_
  refine lv_iconst (v := 1) hx hb d_L_law_539 (by decide) ?_
  refine lv_iadd hx hb d_L_law_540 ?_
  refine va_sld hx hb hX hbl hbA hS (i := i + 1) (hr 1 (by omega)) d_L_law_541 ?_
  refine rw_i (y := v1) hv1.symm ?_
  refine ro_go rfl (va_runV (As := [.int v1]) (rest := [.long r]) ⟨hx, hb, hml, hown, hts⟩ (m_Md_bound l dC dI tC q2 ad_md md v1 r _ (va_P_in hP (fun q h => List.mem_append_left _ h)) e2) (cwV 1 hts (gd_V kM_L_63 kI_Md_bound kV_Md_bound kZ_9 kC_Md_bound) rfl rfl rfl (by decide +kernel) ⟨(by decide +kernel), (by decide +kernel)⟩) ⟨ro_blind, va_recv hK hP (ci := 9) (q0 := 0) rfl rfl, ro_pre hK⟩ rfl rfl hl.1 rfl (lv_room (Nat.le_of_ble_eq_true rfl)) d_L_law_542 ⟨by show _ + 0 ≤ 637990; omega, by show _ + 0 ≤ 7188278; omega⟩) ?_
  refine W.eq (g2 := F0 m 545 ls [.long r, .long r]) rfl ?_
  refine W.lcmp hx hb d_L_law_545 ?_
  refine lv_if_eq (tgt := 1006) hx hb d_L_law_546 (by decide) (fun _ => ?_) (fun c9 => absurd ((lg_cmp_eq _ _).mpr rfl) c9)
  refine W.widen (k := C + 3) (n := S + 43) (by omega) (by omega) ?_
  exact K _ _ hS ⟨a, ad_bc, ad_sg, ad_tr, ad_tu, ad_ff, ad_pl, ad_lw, ad_md, bc, sg, tr, tu, ff, pl, lw, md, nl, hL, adL, aT, nT, LS, TS, FP, hF, adF, FS, rf, ns, gS, aS, nS, SS, sh, hP, hD, hFX, ok, rc, rm, rs, hpl, hns⟩
set_option maxHeartbeats 4000000 in
set_option maxRecDepth 100000 in
theorem law_10 {p : Program} {l : Launch} {e : Env} {s : State} {m : MethodId} {b L : Nat} {xs : Nat → Int32} {below : List Frame} {meth : Method} {c : Code} {Q : State → Prop} {dC : Nat → ClassId} {dI : Nat → Nat → Nat} {tC : Nat → ClassId} {q1 q2 : Nat} (h0 : LH p s m c b L xs dC dI tC) {H : Heap} {locs : List Loc} (hS : va_S (lA s) s.heap H locs) (hi : LInv s dC dI tC q1 q2 H) {i : Int32} (hr : ∀ k : Nat, k < 8 → vp_in (i + Int32.ofNat k) L) {C S : Nat} (hC : C + 3 ≤ 637990) (hC2 : S + 43 ≤ 7188278) {ls : Array Slot} (hl : lv_has ls 4 [(3, .int i), (2, .ref q2), (1, .ref q1), (0, .ref b)]) (K : ∀ (H : Heap) (locs : List Loc), va_S (lA s) s.heap H locs → LInv s dC dI tC q1 q2 H → W p l e room_1 s m #[Value.ref b] below meth c H locs (C + 3) (S + 43) Q (F0 m 1006 ls [])) : W p l e room_1 s m #[Value.ref b] below meth c H locs C S Q (F0 m 551 ls []) := by
  obtain ⟨hx, hb, hml, hown, hts, hX, hbl, hK, hN⟩ := h0
  have hA : ∀ q : Nat, s.heap.size ≤ q → lA s q := fun _ h => h
  have hbA : ¬ lA s b := Nat.not_le.mpr hbl
  obtain ⟨a, ad_bc, ad_sg, ad_tr, ad_tu, ad_ff, ad_pl, ad_lw, ad_md, bc, sg, tr, tu, ff, pl, lw, md, nl, hL, adL, aT, nT, LS, TS, FP, hF, adF, FS, rf, ns, gS, aS, nS, SS, sh, hP, hD, hFX, ok, rc, rm, rs, hpl, hns⟩ := hi
  have hFM : FM tC (TAL tC nl hL adL LS ns gS aS nS SS FP hF adF FS) nl hL adL aT nT LS TS FP hF adF FS rf := hFX.fm (fun _ h => h)
  obtain ⟨r, e1, e2⟩ := x_proved (nl := nl) (nT := nT) (LS := LS) (TS := TS) (FP := FP) (FS := FS) (bc := bc) (sg := sg) (tr := tr) (tu := tu) (ff := ff) (lw := lw) hpl
  refine lv_aload_n hx hb d_L_law_551 rfl (lv_at hl 2 rfl) ?_
  refine ro_go rfl (va_runV (As := []) (rest := []) ⟨hx, hb, hml, hown, hts⟩ (m_Bc_proved l dC dI tC (TAL tC nl hL adL LS ns gS aS nS SS FP hF adF FS) nl hL adL aT nT LS TS FP hF adF FS rf q1 ad_bc bc ad_sg sg ad_tr tr ad_tu tu ad_ff ff ad_pl pl ad_lw lw  r _ hFM (va_P_in hP (fun q h => List.mem_append_right _ h)) e1) (cwV 0 hts (gd_V kM_L_64 kI_Bc_proved kV_Bc_proved kZ_8 kC_Bc_proved) rfl rfl rfl (by decide +kernel) ⟨(by decide +kernel), (by decide +kernel)⟩) ⟨ro_blind, va_recv hK hP (ci := 8) (q0 := 37) rfl rfl, ro_pre hK⟩ rfl rfl hl.1 rfl (lv_room (Nat.le_of_ble_eq_true rfl)) d_L_law_552 ⟨by show _ + 0 ≤ 637990; omega, by show _ + 0 ≤ 7188278; omega⟩) ?_
  refine W.eq (g2 := F0 m 555 ls [.int r]) rfl ?_
  refine lv_aload_n hx hb d_L_law_555 rfl (lv_at hl 1 rfl) ?_
  refine ro_go rfl (va_runV (As := []) (rest := [.int r]) ⟨hx, hb, hml, hown, hts⟩ (m_Md_proved l dC dI tC q2 ad_md md  r _ (va_P_in hP (fun q h => List.mem_append_left _ h)) e2) (cwV 0 hts (gd_V kM_L_68 kI_Md_proved kV_Md_proved kZ_9 kC_Md_proved) rfl rfl rfl (by decide +kernel) ⟨(by decide +kernel), (by decide +kernel)⟩) ⟨ro_blind, va_recv hK hP (ci := 9) (q0 := 0) rfl rfl, ro_pre hK⟩ rfl rfl hl.1 rfl (lv_room (Nat.le_of_ble_eq_true rfl)) d_L_law_556 ⟨by show _ + 0 ≤ 637990; omega, by show _ + 0 ≤ 7188278; omega⟩) ?_
  refine W.eq (g2 := F0 m 559 ls [.int r, .int r]) rfl ?_
  refine lv_icmp_eq (tgt := 1006) hx hb d_L_law_559 (by decide) (fun _ => ?_) (fun c9 => absurd rfl c9)
  refine W.widen (k := C + 3) (n := S + 43) (by omega) (by omega) ?_
  exact K _ _ hS ⟨a, ad_bc, ad_sg, ad_tr, ad_tu, ad_ff, ad_pl, ad_lw, ad_md, bc, sg, tr, tu, ff, pl, lw, md, nl, hL, adL, aT, nT, LS, TS, FP, hF, adF, FS, rf, ns, gS, aS, nS, SS, sh, hP, hD, hFX, ok, rc, rm, rs, hpl, hns⟩
set_option maxHeartbeats 4000000 in
set_option maxRecDepth 100000 in
theorem law_11 {p : Program} {l : Launch} {e : Env} {s : State} {m : MethodId} {b L : Nat} {xs : Nat → Int32} {below : List Frame} {meth : Method} {c : Code} {Q : State → Prop} {dC : Nat → ClassId} {dI : Nat → Nat → Nat} {tC : Nat → ClassId} {q1 q2 : Nat} (h0 : LH p s m c b L xs dC dI tC) {H : Heap} {locs : List Loc} (hS : va_S (lA s) s.heap H locs) (hi : LInv s dC dI tC q1 q2 H) {i : Int32} (hr : ∀ k : Nat, k < 8 → vp_in (i + Int32.ofNat k) L) {C S : Nat} (hC : C + 3 ≤ 637990) (hC2 : S + 43 ≤ 7188278) {ls : Array Slot} (hl : lv_has ls 4 [(3, .int i), (2, .ref q2), (1, .ref q1), (0, .ref b)]) (K : ∀ (H : Heap) (locs : List Loc), va_S (lA s) s.heap H locs → LInv s dC dI tC q1 q2 H → W p l e room_1 s m #[Value.ref b] below meth c H locs (C + 3) (S + 43) Q (F0 m 1006 ls [])) : W p l e room_1 s m #[Value.ref b] below meth c H locs C S Q (F0 m 564 ls []) := by
  obtain ⟨hx, hb, hml, hown, hts, hX, hbl, hK, hN⟩ := h0
  have hA : ∀ q : Nat, s.heap.size ≤ q → lA s q := fun _ h => h
  have hbA : ¬ lA s b := Nat.not_le.mpr hbl
  obtain ⟨a, ad_bc, ad_sg, ad_tr, ad_tu, ad_ff, ad_pl, ad_lw, ad_md, bc, sg, tr, tu, ff, pl, lw, md, nl, hL, adL, aT, nT, LS, TS, FP, hF, adF, FS, rf, ns, gS, aS, nS, SS, sh, hP, hD, hFX, ok, rc, rm, rs, hpl, hns⟩ := hi
  have hFM : FM tC (TAL tC nl hL adL LS ns gS aS nS SS FP hF adF FS) nl hL adL aT nT LS TS FP hF adF FS rf := hFX.fm (fun _ h => h)
  obtain ⟨v1, hv1⟩ : ∃ z : Int32, z = (xs (i + 1).toNatClampNeg) := ⟨_, rfl⟩
  obtain ⟨v2, hv2⟩ : ∃ z : Int32, z = (xs (i + 2).toNatClampNeg) := ⟨_, rfl⟩
  obtain ⟨r, e1, e2⟩ := x_pattern (nl := nl) (nT := nT) (LS := LS) (TS := TS) (FP := FP) (FS := FS) (bc := bc) (sg := sg) (tr := tr) (tu := tu) (ff := ff) (lw := lw) ok hpl v1 v2
  refine lv_aload_n hx hb d_L_law_564 rfl (lv_at hl 2 rfl) ?_
  refine lv_aload_n hx hb d_L_law_565 rfl (lv_at hl 3 rfl) ?_
  refine lv_iload_n hx hb d_L_law_566 rfl (lv_at hl 0 rfl) ?_
  refine lv_iconst (v := 1) hx hb d_L_law_567 (by decide) ?_
  refine lv_iadd hx hb d_L_law_568 ?_
  refine va_sld hx hb hX hbl hbA hS (i := i + 1) (hr 1 (by omega)) d_L_law_569 ?_
  refine rw_i (y := v1) hv1.symm ?_
  refine lv_aload_n hx hb d_L_law_570 rfl (lv_at hl 3 rfl) ?_
  refine lv_iload_n hx hb d_L_law_571 rfl (lv_at hl 0 rfl) ?_
  refine lv_iconst (v := 2) hx hb d_L_law_572 (by decide) ?_
  refine lv_iadd hx hb d_L_law_573 ?_
  refine va_sld hx hb hX hbl hbA hS (i := i + 2) (hr 2 (by omega)) d_L_law_574 ?_
  refine rw_i (y := v2) hv2.symm ?_
  refine ro_go rfl (va_runV (As := [.int v1, .int v2]) (rest := []) ⟨hx, hb, hml, hown, hts⟩ (m_Bc_pattern l dC dI tC (TAL tC nl hL adL LS ns gS aS nS SS FP hF adF FS) nl hL adL aT nT LS TS FP hF adF FS rf q1 ad_bc bc ad_sg sg ad_tr tr ad_tu tu ad_ff ff ad_pl pl ad_lw lw v1 v2 r _ hFM (va_P_in hP (fun q h => List.mem_append_right _ h)) e1) (cwV 2 hts (gd_V kM_L_69 kI_Bc_pattern kV_Bc_pattern kZ_8 kC_Bc_pattern) rfl rfl rfl (by decide +kernel) ⟨(by decide +kernel), (by decide +kernel)⟩) ⟨ro_blind, va_recv hK hP (ci := 8) (q0 := 37) rfl rfl, ro_pre hK⟩ rfl rfl hl.1 rfl (lv_room (Nat.le_of_ble_eq_true rfl)) d_L_law_575 ⟨by show _ + 0 ≤ 637990; omega, by show _ + 0 ≤ 7188278; omega⟩) ?_
  refine W.eq (g2 := F0 m 578 ls [.int r]) rfl ?_
  refine lv_aload_n hx hb d_L_law_578 rfl (lv_at hl 1 rfl) ?_
  refine lv_aload_n hx hb d_L_law_579 rfl (lv_at hl 3 rfl) ?_
  refine lv_iload_n hx hb d_L_law_580 rfl (lv_at hl 0 rfl) ?_
  refine lv_iconst (v := 1) hx hb d_L_law_581 (by decide) ?_
  refine lv_iadd hx hb d_L_law_582 ?_
  refine va_sld hx hb hX hbl hbA hS (i := i + 1) (hr 1 (by omega)) d_L_law_583 ?_
  refine rw_i (y := v1) hv1.symm ?_
  refine lv_aload_n hx hb d_L_law_584 rfl (lv_at hl 3 rfl) ?_
  refine lv_iload_n hx hb d_L_law_585 rfl (lv_at hl 0 rfl) ?_
  refine lv_iconst (v := 2) hx hb d_L_law_586 (by decide) ?_
  refine lv_iadd hx hb d_L_law_587 ?_
  refine va_sld hx hb hX hbl hbA hS (i := i + 2) (hr 2 (by omega)) d_L_law_588 ?_
  refine rw_i (y := v2) hv2.symm ?_
  refine ro_go rfl (va_runV (As := [.int v1, .int v2]) (rest := [.int r]) ⟨hx, hb, hml, hown, hts⟩ (m_Md_pattern l dC dI tC q2 ad_md md v1 v2 r _ (va_P_in hP (fun q h => List.mem_append_left _ h)) e2) (cwV 2 hts (gd_V kM_L_73 kI_Md_pattern kV_Md_pattern kZ_9 kC_Md_pattern) rfl rfl rfl (by decide +kernel) ⟨(by decide +kernel), (by decide +kernel)⟩) ⟨ro_blind, va_recv hK hP (ci := 9) (q0 := 0) rfl rfl, ro_pre hK⟩ rfl rfl hl.1 rfl (lv_room (Nat.le_of_ble_eq_true rfl)) d_L_law_589 ⟨by show _ + 0 ≤ 637990; omega, by show _ + 0 ≤ 7188278; omega⟩) ?_
  refine W.eq (g2 := F0 m 592 ls [.int r, .int r]) rfl ?_
  refine lv_icmp_eq (tgt := 1006) hx hb d_L_law_592 (by decide) (fun _ => ?_) (fun c9 => absurd rfl c9)
  refine W.widen (k := C + 3) (n := S + 43) (by omega) (by omega) ?_
  exact K _ _ hS ⟨a, ad_bc, ad_sg, ad_tr, ad_tu, ad_ff, ad_pl, ad_lw, ad_md, bc, sg, tr, tu, ff, pl, lw, md, nl, hL, adL, aT, nT, LS, TS, FP, hF, adF, FS, rf, ns, gS, aS, nS, SS, sh, hP, hD, hFX, ok, rc, rm, rs, hpl, hns⟩
set_option maxHeartbeats 4000000 in
set_option maxRecDepth 100000 in
theorem law_13 {p : Program} {l : Launch} {e : Env} {s : State} {m : MethodId} {b L : Nat} {xs : Nat → Int32} {below : List Frame} {meth : Method} {c : Code} {Q : State → Prop} {dC : Nat → ClassId} {dI : Nat → Nat → Nat} {tC : Nat → ClassId} {q1 q2 : Nat} (h0 : LH p s m c b L xs dC dI tC) {H : Heap} {locs : List Loc} (hS : va_S (lA s) s.heap H locs) (hi : LInv s dC dI tC q1 q2 H) {i : Int32} (hr : ∀ k : Nat, k < 8 → vp_in (i + Int32.ofNat k) L) {C S : Nat} (hC : C + 3 ≤ 637990) (hC2 : S + 43 ≤ 7188278) {ls : Array Slot} (hl : lv_has ls 4 [(3, .int i), (2, .ref q2), (1, .ref q1), (0, .ref b)]) (K : ∀ (H : Heap) (locs : List Loc), va_S (lA s) s.heap H locs → LInv s dC dI tC q1 q2 H → W p l e room_1 s m #[Value.ref b] below meth c H locs (C + 3) (S + 43) Q (F0 m 1006 ls [])) : W p l e room_1 s m #[Value.ref b] below meth c H locs C S Q (F0 m 744 ls []) := by
  obtain ⟨hx, hb, hml, hown, hts, hX, hbl, hK, hN⟩ := h0
  have hA : ∀ q : Nat, s.heap.size ≤ q → lA s q := fun _ h => h
  have hbA : ¬ lA s b := Nat.not_le.mpr hbl
  obtain ⟨a, ad_bc, ad_sg, ad_tr, ad_tu, ad_ff, ad_pl, ad_lw, ad_md, bc, sg, tr, tu, ff, pl, lw, md, nl, hL, adL, aT, nT, LS, TS, FP, hF, adF, FS, rf, ns, gS, aS, nS, SS, sh, hP, hD, hFX, ok, rc, rm, rs, hpl, hns⟩ := hi
  have hFM : FM tC (TAL tC nl hL adL LS ns gS aS nS SS FP hF adF FS) nl hL adL aT nT LS TS FP hF adF FS rf := hFX.fm (fun _ h => h)
  obtain ⟨v1, hv1⟩ : ∃ z : Int32, z = (xs (i + 1).toNatClampNeg) := ⟨_, rfl⟩
  obtain ⟨v2, hv2⟩ : ∃ z : Int32, z = (xs (i + 2).toNatClampNeg) := ⟨_, rfl⟩
  obtain ⟨r, tr2, md2, e1, e2, hk⟩ := x_command (tr := tr) (tu := tu) (ff := ff) (pl := pl) (lw := lw) ok rc rm v1 v2
  refine lv_aload_n hx hb d_L_law_744 rfl (lv_at hl 2 rfl) ?_
  refine lv_aload_n hx hb d_L_law_745 rfl (lv_at hl 3 rfl) ?_
  refine lv_iload_n hx hb d_L_law_746 rfl (lv_at hl 0 rfl) ?_
  refine lv_iconst (v := 1) hx hb d_L_law_747 (by decide) ?_
  refine lv_iadd hx hb d_L_law_748 ?_
  refine va_sld hx hb hX hbl hbA hS (i := i + 1) (hr 1 (by omega)) d_L_law_749 ?_
  refine rw_i (y := v1) hv1.symm ?_
  refine lv_aload_n hx hb d_L_law_750 rfl (lv_at hl 3 rfl) ?_
  refine lv_iload_n hx hb d_L_law_751 rfl (lv_at hl 0 rfl) ?_
  refine lv_iconst (v := 2) hx hb d_L_law_752 (by decide) ?_
  refine lv_iadd hx hb d_L_law_753 ?_
  refine va_sld hx hb hX hbl hbA hS (i := i + 2) (hr 2 (by omega)) d_L_law_754 ?_
  refine rw_i (y := v2) hv2.symm ?_
  have hPc := va_P_in (w := (w_Bc_ q1 ad_bc tC rf bc ++ (w_Sg_ (ad_bc 100) ad_sg tC sg ++ (w_Tr_ (ad_bc 104) ad_tr tC tr ++ (w_Tr_ (ad_bc 105) ad_tu tC tu ++ (w_Ff_ (ad_bc 103) ad_ff tC ff ++ (w_Pl_ (ad_bc 101) ad_pl tC pl ++ (w_Lw_ (ad_bc 102) ad_lw tC lw ++ (TAL tC nl hL adL LS ns gS aS nS SS FP hF adF FS))))))))) hP (fun q h => List.mem_append_right _ h)
  have hDc : va_D (lA s) (w_Bc_ q1 ad_bc tC rf bc ++ (w_Sg_ (ad_bc 100) ad_sg tC sg ++ (w_Tr_ (ad_bc 104) ad_tr tC tr ++ (w_Tr_ (ad_bc 105) ad_tu tC tu ++ (w_Ff_ (ad_bc 103) ad_ff tC ff ++ (w_Pl_ (ad_bc 101) ad_pl tC pl ++ (w_Lw_ (ad_bc 102) ad_lw tC lw ++ (TAL tC nl hL adL LS ns gS aS nS SS FP hF adF FS)))))))) := D_r hD
  have hFc : ∀ q, va_A (w_Bc_ q1 ad_bc tC rf bc ++ (w_Sg_ (ad_bc 100) ad_sg tC sg ++ (w_Tr_ (ad_bc 104) ad_tr tC tr ++ (w_Tr_ (ad_bc 105) ad_tu tC tu ++ (w_Ff_ (ad_bc 103) ad_ff tC ff ++ (w_Pl_ (ad_bc 101) ad_pl tC pl ++ (w_Lw_ (ad_bc 102) ad_lw tC lw ++ (TAL tC nl hL adL LS ns gS aS nS SS FP hF adF FS)))))))) _ q → lA s q := va_freeAll hDc hS hA
  refine wr_go (va_runV (As := [.int v1, .int v2]) (rest := []) ⟨hx, hb, hml, hown, hts⟩ (m_Bc_command l dC dI tC (TAL tC nl hL adL LS ns gS aS nS SS FP hF adF FS) nl hL adL aT nT LS TS FP hF adF FS rf q1 ad_bc bc ad_sg sg ad_tr tr ad_tu tu ad_ff ff ad_pl pl ad_lw lw v1 v2 (r, bc, sg, tr2, tu, ff, pl, lw) hFM e1 _) (cwV 2 hts (gd_V kM_L_79 kI_Bc_command kV_Bc_command kZ_8 kC_Bc_command) rfl rfl rfl (by decide +kernel) ⟨(by decide +kernel), (by decide +kernel)⟩) ⟨wr_blind, va_recv hK hP (ci := 8) (q0 := 37) rfl rfl, wr_pre hK hPc hDc⟩ rfl rfl hl.1 rfl (lv_room (Nat.le_of_ble_eq_true rfl)) d_L_law_755 ⟨by show _ + 0 ≤ 637990; omega, by show _ + 0 ≤ 7188278; omega⟩) hS hFc (fun r w1 H1 locs hw hP1 hD1 hk1 hS => ?_)
  obtain ⟨rfl, rfl⟩ := hw
  obtain ⟨hP, hD⟩ := jn_A hP hD hk1 hFc hP1 hD1
  clear hP1 hD1 hk1 hPc hDc hFc
  have hP : va_P (dC, dI) vwCl (w_Md_ q2 ad_md tC md ++ (w_Bc_ q1 ad_bc tC rf bc ++ (w_Sg_ (ad_bc 100) ad_sg tC sg ++ (w_Tr_ (ad_bc 104) ad_tr tC tr2 ++ (w_Tr_ (ad_bc 105) ad_tu tC tu ++ (w_Ff_ (ad_bc 103) ad_ff tC ff ++ (w_Pl_ (ad_bc 101) ad_pl tC pl ++ (w_Lw_ (ad_bc 102) ad_lw tC lw ++ (TAL tC nl hL adL LS ns gS aS nS SS FP hF adF FS))))))))) _ := hP
  have hD : va_D (lA s) (w_Md_ q2 ad_md tC md ++ (w_Bc_ q1 ad_bc tC rf bc ++ (w_Sg_ (ad_bc 100) ad_sg tC sg ++ (w_Tr_ (ad_bc 104) ad_tr tC tr2 ++ (w_Tr_ (ad_bc 105) ad_tu tC tu ++ (w_Ff_ (ad_bc 103) ad_ff tC ff ++ (w_Pl_ (ad_bc 101) ad_pl tC pl ++ (w_Lw_ (ad_bc 102) ad_lw tC lw ++ (TAL tC nl hL adL LS ns gS aS nS SS FP hF adF FS))))))))) := hD
  refine W.eq (g2 := F0 m 758 ls [.int r]) rfl ?_
  refine lv_aload_n hx hb d_L_law_758 rfl (lv_at hl 1 rfl) ?_
  refine lv_aload_n hx hb d_L_law_759 rfl (lv_at hl 3 rfl) ?_
  refine lv_iload_n hx hb d_L_law_760 rfl (lv_at hl 0 rfl) ?_
  refine lv_iconst (v := 1) hx hb d_L_law_761 (by decide) ?_
  refine lv_iadd hx hb d_L_law_762 ?_
  refine va_sld hx hb hX hbl hbA hS (i := i + 1) (hr 1 (by omega)) d_L_law_763 ?_
  refine rw_i (y := v1) hv1.symm ?_
  refine lv_aload_n hx hb d_L_law_764 rfl (lv_at hl 3 rfl) ?_
  refine lv_iload_n hx hb d_L_law_765 rfl (lv_at hl 0 rfl) ?_
  refine lv_iconst (v := 2) hx hb d_L_law_766 (by decide) ?_
  refine lv_iadd hx hb d_L_law_767 ?_
  refine va_sld hx hb hX hbl hbA hS (i := i + 2) (hr 2 (by omega)) d_L_law_768 ?_
  refine rw_i (y := v2) hv2.symm ?_
  have hPx : va_P (dC, dI) vwCl (([] : va_W) ++ (w_Md_ q2 ad_md tC md ++ (w_Bc_ q1 ad_bc tC rf bc ++ (w_Sg_ (ad_bc 100) ad_sg tC sg ++ (w_Tr_ (ad_bc 104) ad_tr tC tr2 ++ (w_Tr_ (ad_bc 105) ad_tu tC tu ++ (w_Ff_ (ad_bc 103) ad_ff tC ff ++ (w_Pl_ (ad_bc 101) ad_pl tC pl ++ (w_Lw_ (ad_bc 102) ad_lw tC lw ++ (TAL tC nl hL adL LS ns gS aS nS SS FP hF adF FS)))))))))) _ := hP
  have hDx : va_D (lA s) (([] : va_W) ++ (w_Md_ q2 ad_md tC md ++ (w_Bc_ q1 ad_bc tC rf bc ++ (w_Sg_ (ad_bc 100) ad_sg tC sg ++ (w_Tr_ (ad_bc 104) ad_tr tC tr2 ++ (w_Tr_ (ad_bc 105) ad_tu tC tu ++ (w_Ff_ (ad_bc 103) ad_ff tC ff ++ (w_Pl_ (ad_bc 101) ad_pl tC pl ++ (w_Lw_ (ad_bc 102) ad_lw tC lw ++ (TAL tC nl hL adL LS ns gS aS nS SS FP hF adF FS)))))))))) := hD
  obtain ⟨hPc, hDc, hFc⟩ := bk_cut0 hPx hDx hS hA
  refine wr_go (va_runV (As := [.int v1, .int v2]) (rest := [.int r]) ⟨hx, hb, hml, hown, hts⟩ (m_Md_command l dC dI tC q2 ad_md md v1 v2 (r, md2) e2 _) (cwV 2 hts (gd_V kM_L_82 kI_Md_command kV_Md_command kZ_9 kC_Md_command) rfl rfl rfl (by decide +kernel) ⟨(by decide +kernel), (by decide +kernel)⟩) ⟨wr_blind, va_recv hK hP (ci := 9) (q0 := 0) rfl rfl, wr_pre hK hPc hDc⟩ rfl rfl hl.1 rfl (lv_room (Nat.le_of_ble_eq_true rfl)) d_L_law_769 ⟨by show _ + 0 ≤ 637990; omega, by show _ + 0 ≤ 7188278; omega⟩) hS hFc (fun r w1 H1 locs hw hP1 hD1 hk1 hS => ?_)
  obtain ⟨rfl, rfl⟩ := hw
  obtain ⟨hP, hD⟩ := bk_join0 (B1 := w_Md_ q2 ad_md tC md2) hPx hDx hk1 hP1 rfl
  clear hP1 hD1 hk1 hPc hDc hFc hPx hDx
  have hP : va_P (dC, dI) vwCl (w_Md_ q2 ad_md tC md2 ++ (w_Bc_ q1 ad_bc tC rf bc ++ (w_Sg_ (ad_bc 100) ad_sg tC sg ++ (w_Tr_ (ad_bc 104) ad_tr tC tr2 ++ (w_Tr_ (ad_bc 105) ad_tu tC tu ++ (w_Ff_ (ad_bc 103) ad_ff tC ff ++ (w_Pl_ (ad_bc 101) ad_pl tC pl ++ (w_Lw_ (ad_bc 102) ad_lw tC lw ++ (TAL tC nl hL adL LS ns gS aS nS SS FP hF adF FS))))))))) _ := hP
  have hD : va_D (lA s) (w_Md_ q2 ad_md tC md2 ++ (w_Bc_ q1 ad_bc tC rf bc ++ (w_Sg_ (ad_bc 100) ad_sg tC sg ++ (w_Tr_ (ad_bc 104) ad_tr tC tr2 ++ (w_Tr_ (ad_bc 105) ad_tu tC tu ++ (w_Ff_ (ad_bc 103) ad_ff tC ff ++ (w_Pl_ (ad_bc 101) ad_pl tC pl ++ (w_Lw_ (ad_bc 102) ad_lw tC lw ++ (TAL tC nl hL adL LS ns gS aS nS SS FP hF adF FS))))))))) := hD
  refine W.eq (g2 := F0 m 772 ls [.int r, .int r]) rfl ?_
  refine lv_icmp_eq (tgt := 1006) hx hb d_L_law_772 (by decide) (fun _ => ?_) (fun c9 => absurd rfl c9)
  refine W.widen (k := C + 3) (n := S + 43) (by omega) (by omega) ?_
  exact K _ _ hS ⟨a, ad_bc, ad_sg, ad_tr, ad_tu, ad_ff, ad_pl, ad_lw, ad_md, bc, sg, tr2, tu, ff, pl, lw, md2, nl, hL, adL, aT, nT, LS, TS, FP, hF, adF, FS, rf, ns, gS, aS, nS, SS, sh, hP, hD, hFX, ok, rc, (rm.kept hk), rs, (hpl.keep hk), hns⟩
set_option maxHeartbeats 4000000 in
set_option maxRecDepth 100000 in
theorem law_14 {p : Program} {l : Launch} {e : Env} {s : State} {m : MethodId} {b L : Nat} {xs : Nat → Int32} {below : List Frame} {meth : Method} {c : Code} {Q : State → Prop} {dC : Nat → ClassId} {dI : Nat → Nat → Nat} {tC : Nat → ClassId} {q1 q2 : Nat} (h0 : LH p s m c b L xs dC dI tC) {H : Heap} {locs : List Loc} (hS : va_S (lA s) s.heap H locs) (hi : LInv s dC dI tC q1 q2 H) {i : Int32} (hr : ∀ k : Nat, k < 8 → vp_in (i + Int32.ofNat k) L) {C S : Nat} (hC : C + 3 ≤ 637990) (hC2 : S + 43 ≤ 7188278) {ls : Array Slot} (hl : lv_has ls 4 [(3, .int i), (2, .ref q2), (1, .ref q1), (0, .ref b)]) (K : ∀ (H : Heap) (locs : List Loc), va_S (lA s) s.heap H locs → LInv s dC dI tC q1 q2 H → W p l e room_1 s m #[Value.ref b] below meth c H locs (C + 3) (S + 43) Q (F0 m 1006 ls [])) : W p l e room_1 s m #[Value.ref b] below meth c H locs C S Q (F0 m 777 ls []) := by
  obtain ⟨hx, hb, hml, hown, hts, hX, hbl, hK, hN⟩ := h0
  have hA : ∀ q : Nat, s.heap.size ≤ q → lA s q := fun _ h => h
  have hbA : ¬ lA s b := Nat.not_le.mpr hbl
  obtain ⟨a, ad_bc, ad_sg, ad_tr, ad_tu, ad_ff, ad_pl, ad_lw, ad_md, bc, sg, tr, tu, ff, pl, lw, md, nl, hL, adL, aT, nT, LS, TS, FP, hF, adF, FS, rf, ns, gS, aS, nS, SS, sh, hP, hD, hFX, ok, rc, rm, rs, hpl, hns⟩ := hi
  have hFM : FM tC (TAL tC nl hL adL LS ns gS aS nS SS FP hF adF FS) nl hL adL aT nT LS TS FP hF adF FS rf := hFX.fm (fun _ h => h)
  obtain ⟨v1, hv1⟩ : ∃ z : Int32, z = (xs (i + 1).toNatClampNeg) := ⟨_, rfl⟩
  obtain ⟨v2, hv2⟩ : ∃ z : Int32, z = (xs (i + 2).toNatClampNeg) := ⟨_, rfl⟩
  obtain ⟨r, tr2, tu2, md2, e1, e2, hk⟩ := x_clash (tr := tr) (tu := tu) (ff := ff) (pl := pl) (lw := lw) ok rc rm v1 v2
  refine lv_aload_n hx hb d_L_law_777 rfl (lv_at hl 2 rfl) ?_
  refine lv_aload_n hx hb d_L_law_778 rfl (lv_at hl 3 rfl) ?_
  refine lv_iload_n hx hb d_L_law_779 rfl (lv_at hl 0 rfl) ?_
  refine lv_iconst (v := 1) hx hb d_L_law_780 (by decide) ?_
  refine lv_iadd hx hb d_L_law_781 ?_
  refine va_sld hx hb hX hbl hbA hS (i := i + 1) (hr 1 (by omega)) d_L_law_782 ?_
  refine rw_i (y := v1) hv1.symm ?_
  refine lv_aload_n hx hb d_L_law_783 rfl (lv_at hl 3 rfl) ?_
  refine lv_iload_n hx hb d_L_law_784 rfl (lv_at hl 0 rfl) ?_
  refine lv_iconst (v := 2) hx hb d_L_law_785 (by decide) ?_
  refine lv_iadd hx hb d_L_law_786 ?_
  refine va_sld hx hb hX hbl hbA hS (i := i + 2) (hr 2 (by omega)) d_L_law_787 ?_
  refine rw_i (y := v2) hv2.symm ?_
  have hPc := va_P_in (w := (w_Bc_ q1 ad_bc tC rf bc ++ (w_Sg_ (ad_bc 100) ad_sg tC sg ++ (w_Tr_ (ad_bc 104) ad_tr tC tr ++ (w_Tr_ (ad_bc 105) ad_tu tC tu ++ (w_Ff_ (ad_bc 103) ad_ff tC ff ++ (w_Pl_ (ad_bc 101) ad_pl tC pl ++ (w_Lw_ (ad_bc 102) ad_lw tC lw ++ (TAL tC nl hL adL LS ns gS aS nS SS FP hF adF FS))))))))) hP (fun q h => List.mem_append_right _ h)
  have hDc : va_D (lA s) (w_Bc_ q1 ad_bc tC rf bc ++ (w_Sg_ (ad_bc 100) ad_sg tC sg ++ (w_Tr_ (ad_bc 104) ad_tr tC tr ++ (w_Tr_ (ad_bc 105) ad_tu tC tu ++ (w_Ff_ (ad_bc 103) ad_ff tC ff ++ (w_Pl_ (ad_bc 101) ad_pl tC pl ++ (w_Lw_ (ad_bc 102) ad_lw tC lw ++ (TAL tC nl hL adL LS ns gS aS nS SS FP hF adF FS)))))))) := D_r hD
  have hFc : ∀ q, va_A (w_Bc_ q1 ad_bc tC rf bc ++ (w_Sg_ (ad_bc 100) ad_sg tC sg ++ (w_Tr_ (ad_bc 104) ad_tr tC tr ++ (w_Tr_ (ad_bc 105) ad_tu tC tu ++ (w_Ff_ (ad_bc 103) ad_ff tC ff ++ (w_Pl_ (ad_bc 101) ad_pl tC pl ++ (w_Lw_ (ad_bc 102) ad_lw tC lw ++ (TAL tC nl hL adL LS ns gS aS nS SS FP hF adF FS)))))))) _ q → lA s q := va_freeAll hDc hS hA
  refine wr_go (va_runV (As := [.int v1, .int v2]) (rest := []) ⟨hx, hb, hml, hown, hts⟩ (m_Bc_clash l dC dI tC (TAL tC nl hL adL LS ns gS aS nS SS FP hF adF FS) nl hL adL aT nT LS TS FP hF adF FS rf q1 ad_bc bc ad_sg sg ad_tr tr ad_tu tu ad_ff ff ad_pl pl ad_lw lw v1 v2 (r, bc, sg, tr2, tu2, ff, pl, lw) hFM e1 _) (cwV 2 hts (gd_V kM_L_83 kI_Bc_clash kV_Bc_clash kZ_8 kC_Bc_clash) rfl rfl rfl (by decide +kernel) ⟨(by decide +kernel), (by decide +kernel)⟩) ⟨wr_blind, va_recv hK hP (ci := 8) (q0 := 37) rfl rfl, wr_pre hK hPc hDc⟩ rfl rfl hl.1 rfl (lv_room (Nat.le_of_ble_eq_true rfl)) d_L_law_788 ⟨by show _ + 0 ≤ 637990; omega, by show _ + 0 ≤ 7188278; omega⟩) hS hFc (fun r w1 H1 locs hw hP1 hD1 hk1 hS => ?_)
  obtain ⟨rfl, rfl⟩ := hw
  obtain ⟨hP, hD⟩ := jn_A hP hD hk1 hFc hP1 hD1
  clear hP1 hD1 hk1 hPc hDc hFc
  have hP : va_P (dC, dI) vwCl (w_Md_ q2 ad_md tC md ++ (w_Bc_ q1 ad_bc tC rf bc ++ (w_Sg_ (ad_bc 100) ad_sg tC sg ++ (w_Tr_ (ad_bc 104) ad_tr tC tr2 ++ (w_Tr_ (ad_bc 105) ad_tu tC tu2 ++ (w_Ff_ (ad_bc 103) ad_ff tC ff ++ (w_Pl_ (ad_bc 101) ad_pl tC pl ++ (w_Lw_ (ad_bc 102) ad_lw tC lw ++ (TAL tC nl hL adL LS ns gS aS nS SS FP hF adF FS))))))))) _ := hP
  have hD : va_D (lA s) (w_Md_ q2 ad_md tC md ++ (w_Bc_ q1 ad_bc tC rf bc ++ (w_Sg_ (ad_bc 100) ad_sg tC sg ++ (w_Tr_ (ad_bc 104) ad_tr tC tr2 ++ (w_Tr_ (ad_bc 105) ad_tu tC tu2 ++ (w_Ff_ (ad_bc 103) ad_ff tC ff ++ (w_Pl_ (ad_bc 101) ad_pl tC pl ++ (w_Lw_ (ad_bc 102) ad_lw tC lw ++ (TAL tC nl hL adL LS ns gS aS nS SS FP hF adF FS))))))))) := hD
  refine W.eq (g2 := F0 m 791 ls [.int r]) rfl ?_
  refine lv_aload_n hx hb d_L_law_791 rfl (lv_at hl 1 rfl) ?_
  refine lv_aload_n hx hb d_L_law_792 rfl (lv_at hl 3 rfl) ?_
  refine lv_iload_n hx hb d_L_law_793 rfl (lv_at hl 0 rfl) ?_
  refine lv_iconst (v := 1) hx hb d_L_law_794 (by decide) ?_
  refine lv_iadd hx hb d_L_law_795 ?_
  refine va_sld hx hb hX hbl hbA hS (i := i + 1) (hr 1 (by omega)) d_L_law_796 ?_
  refine rw_i (y := v1) hv1.symm ?_
  refine lv_aload_n hx hb d_L_law_797 rfl (lv_at hl 3 rfl) ?_
  refine lv_iload_n hx hb d_L_law_798 rfl (lv_at hl 0 rfl) ?_
  refine lv_iconst (v := 2) hx hb d_L_law_799 (by decide) ?_
  refine lv_iadd hx hb d_L_law_800 ?_
  refine va_sld hx hb hX hbl hbA hS (i := i + 2) (hr 2 (by omega)) d_L_law_801 ?_
  refine rw_i (y := v2) hv2.symm ?_
  have hPx : va_P (dC, dI) vwCl (([] : va_W) ++ (w_Md_ q2 ad_md tC md ++ (w_Bc_ q1 ad_bc tC rf bc ++ (w_Sg_ (ad_bc 100) ad_sg tC sg ++ (w_Tr_ (ad_bc 104) ad_tr tC tr2 ++ (w_Tr_ (ad_bc 105) ad_tu tC tu2 ++ (w_Ff_ (ad_bc 103) ad_ff tC ff ++ (w_Pl_ (ad_bc 101) ad_pl tC pl ++ (w_Lw_ (ad_bc 102) ad_lw tC lw ++ (TAL tC nl hL adL LS ns gS aS nS SS FP hF adF FS)))))))))) _ := hP
  have hDx : va_D (lA s) (([] : va_W) ++ (w_Md_ q2 ad_md tC md ++ (w_Bc_ q1 ad_bc tC rf bc ++ (w_Sg_ (ad_bc 100) ad_sg tC sg ++ (w_Tr_ (ad_bc 104) ad_tr tC tr2 ++ (w_Tr_ (ad_bc 105) ad_tu tC tu2 ++ (w_Ff_ (ad_bc 103) ad_ff tC ff ++ (w_Pl_ (ad_bc 101) ad_pl tC pl ++ (w_Lw_ (ad_bc 102) ad_lw tC lw ++ (TAL tC nl hL adL LS ns gS aS nS SS FP hF adF FS)))))))))) := hD
  obtain ⟨hPc, hDc, hFc⟩ := bk_cut0 hPx hDx hS hA
  refine wr_go (va_runV (As := [.int v1, .int v2]) (rest := [.int r]) ⟨hx, hb, hml, hown, hts⟩ (m_Md_clash l dC dI tC q2 ad_md md v1 v2 (r, md2) e2 _) (cwV 2 hts (gd_V kM_L_86 kI_Md_clash kV_Md_clash kZ_9 kC_Md_clash) rfl rfl rfl (by decide +kernel) ⟨(by decide +kernel), (by decide +kernel)⟩) ⟨wr_blind, va_recv hK hP (ci := 9) (q0 := 0) rfl rfl, wr_pre hK hPc hDc⟩ rfl rfl hl.1 rfl (lv_room (Nat.le_of_ble_eq_true rfl)) d_L_law_802 ⟨by show _ + 0 ≤ 637990; omega, by show _ + 0 ≤ 7188278; omega⟩) hS hFc (fun r w1 H1 locs hw hP1 hD1 hk1 hS => ?_)
  obtain ⟨rfl, rfl⟩ := hw
  obtain ⟨hP, hD⟩ := bk_join0 (B1 := w_Md_ q2 ad_md tC md2) hPx hDx hk1 hP1 rfl
  clear hP1 hD1 hk1 hPc hDc hFc hPx hDx
  have hP : va_P (dC, dI) vwCl (w_Md_ q2 ad_md tC md2 ++ (w_Bc_ q1 ad_bc tC rf bc ++ (w_Sg_ (ad_bc 100) ad_sg tC sg ++ (w_Tr_ (ad_bc 104) ad_tr tC tr2 ++ (w_Tr_ (ad_bc 105) ad_tu tC tu2 ++ (w_Ff_ (ad_bc 103) ad_ff tC ff ++ (w_Pl_ (ad_bc 101) ad_pl tC pl ++ (w_Lw_ (ad_bc 102) ad_lw tC lw ++ (TAL tC nl hL adL LS ns gS aS nS SS FP hF adF FS))))))))) _ := hP
  have hD : va_D (lA s) (w_Md_ q2 ad_md tC md2 ++ (w_Bc_ q1 ad_bc tC rf bc ++ (w_Sg_ (ad_bc 100) ad_sg tC sg ++ (w_Tr_ (ad_bc 104) ad_tr tC tr2 ++ (w_Tr_ (ad_bc 105) ad_tu tC tu2 ++ (w_Ff_ (ad_bc 103) ad_ff tC ff ++ (w_Pl_ (ad_bc 101) ad_pl tC pl ++ (w_Lw_ (ad_bc 102) ad_lw tC lw ++ (TAL tC nl hL adL LS ns gS aS nS SS FP hF adF FS))))))))) := hD
  refine W.eq (g2 := F0 m 805 ls [.int r, .int r]) rfl ?_
  refine lv_icmp_eq (tgt := 1006) hx hb d_L_law_805 (by decide) (fun _ => ?_) (fun c9 => absurd rfl c9)
  refine W.widen (k := C + 3) (n := S + 43) (by omega) (by omega) ?_
  exact K _ _ hS ⟨a, ad_bc, ad_sg, ad_tr, ad_tu, ad_ff, ad_pl, ad_lw, ad_md, bc, sg, tr2, tu2, ff, pl, lw, md2, nl, hL, adL, aT, nT, LS, TS, FP, hF, adF, FS, rf, ns, gS, aS, nS, SS, sh, hP, hD, hFX, ok, rc, (rm.kept hk), rs, (hpl.keep hk), hns⟩
set_option maxHeartbeats 4000000 in
set_option maxRecDepth 100000 in
theorem law_15 {p : Program} {l : Launch} {e : Env} {s : State} {m : MethodId} {b L : Nat} {xs : Nat → Int32} {below : List Frame} {meth : Method} {c : Code} {Q : State → Prop} {dC : Nat → ClassId} {dI : Nat → Nat → Nat} {tC : Nat → ClassId} {q1 q2 : Nat} (h0 : LH p s m c b L xs dC dI tC) {H : Heap} {locs : List Loc} (hS : va_S (lA s) s.heap H locs) (hi : LInv s dC dI tC q1 q2 H) {i : Int32} (hr : ∀ k : Nat, k < 8 → vp_in (i + Int32.ofNat k) L) {C S : Nat} (hC : C + 3 ≤ 637990) (hC2 : S + 43 ≤ 7188278) {ls : Array Slot} (hl : lv_has ls 4 [(3, .int i), (2, .ref q2), (1, .ref q1), (0, .ref b)]) (K : ∀ (H : Heap) (locs : List Loc), va_S (lA s) s.heap H locs → LInv s dC dI tC q1 q2 H → W p l e room_1 s m #[Value.ref b] below meth c H locs (C + 3) (S + 43) Q (F0 m 1006 ls [])) : W p l e room_1 s m #[Value.ref b] below meth c H locs C S Q (F0 m 810 ls []) := by
  obtain ⟨hx, hb, hml, hown, hts, hX, hbl, hK, hN⟩ := h0
  have hA : ∀ q : Nat, s.heap.size ≤ q → lA s q := fun _ h => h
  have hbA : ¬ lA s b := Nat.not_le.mpr hbl
  obtain ⟨a, ad_bc, ad_sg, ad_tr, ad_tu, ad_ff, ad_pl, ad_lw, ad_md, bc, sg, tr, tu, ff, pl, lw, md, nl, hL, adL, aT, nT, LS, TS, FP, hF, adF, FS, rf, ns, gS, aS, nS, SS, sh, hP, hD, hFX, ok, rc, rm, rs, hpl, hns⟩ := hi
  have hFM : FM tC (TAL tC nl hL adL LS ns gS aS nS SS FP hF adF FS) nl hL adL aT nT LS TS FP hF adF FS rf := hFX.fm (fun _ h => h)
  obtain ⟨v1, hv1⟩ : ∃ z : Int32, z = (xs (i + 1).toNatClampNeg) := ⟨_, rfl⟩
  obtain ⟨v2, hv2⟩ : ∃ z : Int64, z = (((xs (i + 2).toNatClampNeg).toInt64 <<< ((32 : Int32).toInt64 &&& 63)) ||| ((xs (i + 3).toNatClampNeg).toInt64 &&& 4294967295)) := ⟨_, rfl⟩
  obtain ⟨r, e1, e2⟩ := x_lap (tr := tr) (tu := tu) (ff := ff) (pl := pl) (lw := lw) ok rc rm v1 v2
  refine lv_aload_n hx hb d_L_law_810 rfl (lv_at hl 2 rfl) ?_
  refine lv_aload_n hx hb d_L_law_811 rfl (lv_at hl 3 rfl) ?_
  refine lv_iload_n hx hb d_L_law_812 rfl (lv_at hl 0 rfl) ?_
  refine lv_iconst (v := 1) hx hb d_L_law_813 (by decide) ?_
  refine lv_iadd hx hb d_L_law_814 ?_
  refine va_sld hx hb hX hbl hbA hS (i := i + 1) (hr 1 (by omega)) d_L_law_815 ?_
  refine rw_i (y := v1) hv1.symm ?_
  refine lv_aload_n hx hb d_L_law_816 rfl (lv_at hl 3 rfl) ?_
  refine lv_iload_n hx hb d_L_law_817 rfl (lv_at hl 0 rfl) ?_
  refine lv_iconst (v := 2) hx hb d_L_law_818 (by decide) ?_
  refine lv_iadd hx hb d_L_law_819 ?_
  refine va_sld hx hb hX hbl hbA hS (i := i + 2) (hr 2 (by omega)) d_L_law_820 ?_
  refine lv_i2l (v := (xs (i + 2).toNatClampNeg).toInt64) hx hb d_L_law_821 rfl ?_
  refine lv_bipush (v := 32) hx hb d_L_law_822 (by decide) ?_
  refine lv_lshl hx hb d_L_law_824 rfl ?_
  refine lv_aload_n hx hb d_L_law_825 rfl (lv_at hl 3 rfl) ?_
  refine lv_iload_n hx hb d_L_law_826 rfl (lv_at hl 0 rfl) ?_
  refine lv_iconst (v := 3) hx hb d_L_law_827 (by decide) ?_
  refine lv_iadd hx hb d_L_law_828 ?_
  refine va_sld hx hb hX hbl hbA hS (i := i + 3) (hr 3 (by omega)) d_L_law_829 ?_
  refine lv_i2l (v := (xs (i + 3).toNatClampNeg).toInt64) hx hb d_L_law_830 rfl ?_
  refine lv_ldc2 (v := 4294967295) hx hb hown (hts _ kK_L_23) d_L_law_831 ?_
  refine lv_land hx hb d_L_law_834 ?_
  refine lv_lor hx hb d_L_law_835 ?_
  refine rw_l (y := v2) hv2.symm ?_
  refine ro_go rfl (va_runV (As := [.int v1, .long v2]) (rest := []) ⟨hx, hb, hml, hown, hts⟩ (m_Bc_lap l dC dI tC (TAL tC nl hL adL LS ns gS aS nS SS FP hF adF FS) nl hL adL aT nT LS TS FP hF adF FS rf q1 ad_bc bc ad_sg sg ad_tr tr ad_tu tu ad_ff ff ad_pl pl ad_lw lw v1 v2 r _ hFM (va_P_in hP (fun q h => List.mem_append_right _ h)) e1) (cwV 2 hts (gd_V kM_L_87 kI_Bc_lap kV_Bc_lap kZ_8 kC_Bc_lap) rfl rfl rfl (by decide +kernel) ⟨(by decide +kernel), (by decide +kernel)⟩) ⟨ro_blind, va_recv hK hP (ci := 8) (q0 := 37) rfl rfl, ro_pre hK⟩ rfl rfl hl.1 rfl (lv_room (Nat.le_of_ble_eq_true rfl)) d_L_law_836 ⟨by show _ + 0 ≤ 637990; omega, by show _ + 0 ≤ 7188278; omega⟩) ?_
  refine W.eq (g2 := F0 m 839 ls [.int r]) rfl ?_
  refine lv_aload_n hx hb d_L_law_839 rfl (lv_at hl 1 rfl) ?_
  refine lv_aload_n hx hb d_L_law_840 rfl (lv_at hl 3 rfl) ?_
  refine lv_iload_n hx hb d_L_law_841 rfl (lv_at hl 0 rfl) ?_
  refine lv_iconst (v := 1) hx hb d_L_law_842 (by decide) ?_
  refine lv_iadd hx hb d_L_law_843 ?_
  refine va_sld hx hb hX hbl hbA hS (i := i + 1) (hr 1 (by omega)) d_L_law_844 ?_
  refine rw_i (y := v1) hv1.symm ?_
  refine lv_aload_n hx hb d_L_law_845 rfl (lv_at hl 3 rfl) ?_
  refine lv_iload_n hx hb d_L_law_846 rfl (lv_at hl 0 rfl) ?_
  refine lv_iconst (v := 2) hx hb d_L_law_847 (by decide) ?_
  refine lv_iadd hx hb d_L_law_848 ?_
  refine va_sld hx hb hX hbl hbA hS (i := i + 2) (hr 2 (by omega)) d_L_law_849 ?_
  refine lv_i2l (v := (xs (i + 2).toNatClampNeg).toInt64) hx hb d_L_law_850 rfl ?_
  refine lv_bipush (v := 32) hx hb d_L_law_851 (by decide) ?_
  refine lv_lshl hx hb d_L_law_853 rfl ?_
  refine lv_aload_n hx hb d_L_law_854 rfl (lv_at hl 3 rfl) ?_
  refine lv_iload_n hx hb d_L_law_855 rfl (lv_at hl 0 rfl) ?_
  refine lv_iconst (v := 3) hx hb d_L_law_856 (by decide) ?_
  refine lv_iadd hx hb d_L_law_857 ?_
  refine va_sld hx hb hX hbl hbA hS (i := i + 3) (hr 3 (by omega)) d_L_law_858 ?_
  refine lv_i2l (v := (xs (i + 3).toNatClampNeg).toInt64) hx hb d_L_law_859 rfl ?_
  refine lv_ldc2 (v := 4294967295) hx hb hown (hts _ kK_L_23) d_L_law_860 ?_
  refine lv_land hx hb d_L_law_863 ?_
  refine lv_lor hx hb d_L_law_864 ?_
  refine rw_l (y := v2) hv2.symm ?_
  refine ro_go rfl (va_runV (As := [.int v1, .long v2]) (rest := [.int r]) ⟨hx, hb, hml, hown, hts⟩ (m_Md_lap l dC dI tC q2 ad_md md v1 v2 r _ (va_P_in hP (fun q h => List.mem_append_left _ h)) e2) (cwV 2 hts (gd_V kM_L_91 kI_Md_lap kV_Md_lap kZ_9 kC_Md_lap) rfl rfl rfl (by decide +kernel) ⟨(by decide +kernel), (by decide +kernel)⟩) ⟨ro_blind, va_recv hK hP (ci := 9) (q0 := 0) rfl rfl, ro_pre hK⟩ rfl rfl hl.1 rfl (lv_room (Nat.le_of_ble_eq_true rfl)) d_L_law_865 ⟨by show _ + 0 ≤ 637990; omega, by show _ + 0 ≤ 7188278; omega⟩) ?_
  refine W.eq (g2 := F0 m 868 ls [.int r, .int r]) rfl ?_
  refine lv_icmp_eq (tgt := 1006) hx hb d_L_law_868 (by decide) (fun _ => ?_) (fun c9 => absurd rfl c9)
  refine W.widen (k := C + 3) (n := S + 43) (by omega) (by omega) ?_
  exact K _ _ hS ⟨a, ad_bc, ad_sg, ad_tr, ad_tu, ad_ff, ad_pl, ad_lw, ad_md, bc, sg, tr, tu, ff, pl, lw, md, nl, hL, adL, aT, nT, LS, TS, FP, hF, adF, FS, rf, ns, gS, aS, nS, SS, sh, hP, hD, hFX, ok, rc, rm, rs, hpl, hns⟩
set_option maxHeartbeats 4000000 in
set_option maxRecDepth 100000 in
theorem law_16 {p : Program} {l : Launch} {e : Env} {s : State} {m : MethodId} {b L : Nat} {xs : Nat → Int32} {below : List Frame} {meth : Method} {c : Code} {Q : State → Prop} {dC : Nat → ClassId} {dI : Nat → Nat → Nat} {tC : Nat → ClassId} {q1 q2 : Nat} (h0 : LH p s m c b L xs dC dI tC) {H : Heap} {locs : List Loc} (hS : va_S (lA s) s.heap H locs) (hi : LInv s dC dI tC q1 q2 H) {i : Int32} (hr : ∀ k : Nat, k < 8 → vp_in (i + Int32.ofNat k) L) {C S : Nat} (hC : C + 3 ≤ 637990) (hC2 : S + 43 ≤ 7188278) {ls : Array Slot} (hl : lv_has ls 4 [(3, .int i), (2, .ref q2), (1, .ref q1), (0, .ref b)]) (K : ∀ (H : Heap) (locs : List Loc), va_S (lA s) s.heap H locs → LInv s dC dI tC q1 q2 H → W p l e room_1 s m #[Value.ref b] below meth c H locs (C + 3) (S + 43) Q (F0 m 1006 ls [])) : W p l e room_1 s m #[Value.ref b] below meth c H locs C S Q (F0 m 873 ls []) := by
  obtain ⟨hx, hb, hml, hown, hts, hX, hbl, hK, hN⟩ := h0
  have hA : ∀ q : Nat, s.heap.size ≤ q → lA s q := fun _ h => h
  have hbA : ¬ lA s b := Nat.not_le.mpr hbl
  obtain ⟨a, ad_bc, ad_sg, ad_tr, ad_tu, ad_ff, ad_pl, ad_lw, ad_md, bc, sg, tr, tu, ff, pl, lw, md, nl, hL, adL, aT, nT, LS, TS, FP, hF, adF, FS, rf, ns, gS, aS, nS, SS, sh, hP, hD, hFX, ok, rc, rm, rs, hpl, hns⟩ := hi
  have hFM : FM tC (TAL tC nl hL adL LS ns gS aS nS SS FP hF adF FS) nl hL adL aT nT LS TS FP hF adF FS rf := hFX.fm (fun _ h => h)
  obtain ⟨v1, hv1⟩ : ∃ z : Int32, z = (xs (i + 1).toNatClampNeg) := ⟨_, rfl⟩
  obtain ⟨v2, hv2⟩ : ∃ z : Int32, z = (xs (i + 2).toNatClampNeg) := ⟨_, rfl⟩
  obtain ⟨r, e1, e2⟩ := x_weight (tr := tr) (tu := tu) (ff := ff) (pl := pl) (lw := lw) ok rc rm v1 v2
  refine lv_aload_n hx hb d_L_law_873 rfl (lv_at hl 2 rfl) ?_
  refine lv_aload_n hx hb d_L_law_874 rfl (lv_at hl 3 rfl) ?_
  refine lv_iload_n hx hb d_L_law_875 rfl (lv_at hl 0 rfl) ?_
  refine lv_iconst (v := 1) hx hb d_L_law_876 (by decide) ?_
  refine lv_iadd hx hb d_L_law_877 ?_
  refine va_sld hx hb hX hbl hbA hS (i := i + 1) (hr 1 (by omega)) d_L_law_878 ?_
  refine rw_i (y := v1) hv1.symm ?_
  refine lv_aload_n hx hb d_L_law_879 rfl (lv_at hl 3 rfl) ?_
  refine lv_iload_n hx hb d_L_law_880 rfl (lv_at hl 0 rfl) ?_
  refine lv_iconst (v := 2) hx hb d_L_law_881 (by decide) ?_
  refine lv_iadd hx hb d_L_law_882 ?_
  refine va_sld hx hb hX hbl hbA hS (i := i + 2) (hr 2 (by omega)) d_L_law_883 ?_
  refine rw_i (y := v2) hv2.symm ?_
  refine ro_go rfl (va_runV (As := [.int v1, .int v2]) (rest := []) ⟨hx, hb, hml, hown, hts⟩ (m_Bc_weight l dC dI tC (TAL tC nl hL adL LS ns gS aS nS SS FP hF adF FS) nl hL adL aT nT LS TS FP hF adF FS rf q1 ad_bc bc ad_sg sg ad_tr tr ad_tu tu ad_ff ff ad_pl pl ad_lw lw v1 v2 r _ hFM (va_P_in hP (fun q h => List.mem_append_right _ h)) e1) (cwV 2 hts (gd_V kM_L_92 kI_Bc_weight kV_Bc_weight kZ_8 kC_Bc_weight) rfl rfl rfl (by decide +kernel) ⟨(by decide +kernel), (by decide +kernel)⟩) ⟨ro_blind, va_recv hK hP (ci := 8) (q0 := 37) rfl rfl, ro_pre hK⟩ rfl rfl hl.1 rfl (lv_room (Nat.le_of_ble_eq_true rfl)) d_L_law_884 ⟨by show _ + 0 ≤ 637990; omega, by show _ + 0 ≤ 7188278; omega⟩) ?_
  refine W.eq (g2 := F0 m 887 ls [.long r]) rfl ?_
  refine lv_aload_n hx hb d_L_law_887 rfl (lv_at hl 1 rfl) ?_
  refine lv_aload_n hx hb d_L_law_888 rfl (lv_at hl 3 rfl) ?_
  refine lv_iload_n hx hb d_L_law_889 rfl (lv_at hl 0 rfl) ?_
  refine lv_iconst (v := 1) hx hb d_L_law_890 (by decide) ?_
  refine lv_iadd hx hb d_L_law_891 ?_
  refine va_sld hx hb hX hbl hbA hS (i := i + 1) (hr 1 (by omega)) d_L_law_892 ?_
  refine rw_i (y := v1) hv1.symm ?_
  refine lv_aload_n hx hb d_L_law_893 rfl (lv_at hl 3 rfl) ?_
  refine lv_iload_n hx hb d_L_law_894 rfl (lv_at hl 0 rfl) ?_
  refine lv_iconst (v := 2) hx hb d_L_law_895 (by decide) ?_
  refine lv_iadd hx hb d_L_law_896 ?_
  refine va_sld hx hb hX hbl hbA hS (i := i + 2) (hr 2 (by omega)) d_L_law_897 ?_
  refine rw_i (y := v2) hv2.symm ?_
  refine ro_go rfl (va_runV (As := [.int v1, .int v2]) (rest := [.long r]) ⟨hx, hb, hml, hown, hts⟩ (m_Md_weight l dC dI tC q2 ad_md md v1 v2 r _ (va_P_in hP (fun q h => List.mem_append_left _ h)) e2) (cwV 2 hts (gd_V kM_L_95 kI_Md_weight kV_Md_weight kZ_9 kC_Md_weight) rfl rfl rfl (by decide +kernel) ⟨(by decide +kernel), (by decide +kernel)⟩) ⟨ro_blind, va_recv hK hP (ci := 9) (q0 := 0) rfl rfl, ro_pre hK⟩ rfl rfl hl.1 rfl (lv_room (Nat.le_of_ble_eq_true rfl)) d_L_law_898 ⟨by show _ + 0 ≤ 637990; omega, by show _ + 0 ≤ 7188278; omega⟩) ?_
  refine W.eq (g2 := F0 m 901 ls [.long r, .long r]) rfl ?_
  refine W.lcmp hx hb d_L_law_901 ?_
  refine lv_if_eq (tgt := 1006) hx hb d_L_law_902 (by decide) (fun _ => ?_) (fun c9 => absurd ((lg_cmp_eq _ _).mpr rfl) c9)
  refine W.widen (k := C + 3) (n := S + 43) (by omega) (by omega) ?_
  exact K _ _ hS ⟨a, ad_bc, ad_sg, ad_tr, ad_tu, ad_ff, ad_pl, ad_lw, ad_md, bc, sg, tr, tu, ff, pl, lw, md, nl, hL, adL, aT, nT, LS, TS, FP, hF, adF, FS, rf, ns, gS, aS, nS, SS, sh, hP, hD, hFX, ok, rc, rm, rs, hpl, hns⟩
set_option maxHeartbeats 4000000 in
set_option maxRecDepth 100000 in
theorem law_17 {p : Program} {l : Launch} {e : Env} {s : State} {m : MethodId} {b L : Nat} {xs : Nat → Int32} {below : List Frame} {meth : Method} {c : Code} {Q : State → Prop} {dC : Nat → ClassId} {dI : Nat → Nat → Nat} {tC : Nat → ClassId} {q1 q2 : Nat} (h0 : LH p s m c b L xs dC dI tC) {H : Heap} {locs : List Loc} (hS : va_S (lA s) s.heap H locs) (hi : LInv s dC dI tC q1 q2 H) {i : Int32} (hr : ∀ k : Nat, k < 8 → vp_in (i + Int32.ofNat k) L) {C S : Nat} (hC : C + 3 ≤ 637990) (hC2 : S + 43 ≤ 7188278) {ls : Array Slot} (hl : lv_has ls 4 [(3, .int i), (2, .ref q2), (1, .ref q1), (0, .ref b)]) (K : ∀ (H : Heap) (locs : List Loc), va_S (lA s) s.heap H locs → LInv s dC dI tC q1 q2 H → W p l e room_1 s m #[Value.ref b] below meth c H locs (C + 3) (S + 43) Q (F0 m 1006 ls [])) : W p l e room_1 s m #[Value.ref b] below meth c H locs C S Q (F0 m 907 ls []) := by
  obtain ⟨hx, hb, hml, hown, hts, hX, hbl, hK, hN⟩ := h0
  have hA : ∀ q : Nat, s.heap.size ≤ q → lA s q := fun _ h => h
  have hbA : ¬ lA s b := Nat.not_le.mpr hbl
  obtain ⟨a, ad_bc, ad_sg, ad_tr, ad_tu, ad_ff, ad_pl, ad_lw, ad_md, bc, sg, tr, tu, ff, pl, lw, md, nl, hL, adL, aT, nT, LS, TS, FP, hF, adF, FS, rf, ns, gS, aS, nS, SS, sh, hP, hD, hFX, ok, rc, rm, rs, hpl, hns⟩ := hi
  have hFM : FM tC (TAL tC nl hL adL LS ns gS aS nS SS FP hF adF FS) nl hL adL aT nT LS TS FP hF adF FS rf := hFX.fm (fun _ h => h)
  obtain ⟨v1, hv1⟩ : ∃ z : Int32, z = (xs (i + 1).toNatClampNeg) := ⟨_, rfl⟩
  obtain ⟨v2, hv2⟩ : ∃ z : Int32, z = (xs (i + 2).toNatClampNeg) := ⟨_, rfl⟩
  obtain ⟨r, md2, e1, e2, hk⟩ := x_tag (tr := tr) (tu := tu) (ff := ff) (pl := pl) (lw := lw) ok rc rm v1 v2
  refine lv_aload_n hx hb d_L_law_907 rfl (lv_at hl 2 rfl) ?_
  refine lv_aload_n hx hb d_L_law_908 rfl (lv_at hl 3 rfl) ?_
  refine lv_iload_n hx hb d_L_law_909 rfl (lv_at hl 0 rfl) ?_
  refine lv_iconst (v := 1) hx hb d_L_law_910 (by decide) ?_
  refine lv_iadd hx hb d_L_law_911 ?_
  refine va_sld hx hb hX hbl hbA hS (i := i + 1) (hr 1 (by omega)) d_L_law_912 ?_
  refine rw_i (y := v1) hv1.symm ?_
  refine lv_aload_n hx hb d_L_law_913 rfl (lv_at hl 3 rfl) ?_
  refine lv_iload_n hx hb d_L_law_914 rfl (lv_at hl 0 rfl) ?_
  refine lv_iconst (v := 2) hx hb d_L_law_915 (by decide) ?_
  refine lv_iadd hx hb d_L_law_916 ?_
  refine va_sld hx hb hX hbl hbA hS (i := i + 2) (hr 2 (by omega)) d_L_law_917 ?_
  refine rw_i (y := v2) hv2.symm ?_
  refine ro_go rfl (va_runV (As := [.int v1, .int v2]) (rest := []) ⟨hx, hb, hml, hown, hts⟩ (m_Bc_tag l dC dI tC (TAL tC nl hL adL LS ns gS aS nS SS FP hF adF FS) nl hL adL aT nT LS TS FP hF adF FS rf q1 ad_bc bc ad_sg sg ad_tr tr ad_tu tu ad_ff ff ad_pl pl ad_lw lw v1 v2 r _ hFM (va_P_in hP (fun q h => List.mem_append_right _ h)) e1) (cwV 2 hts (gd_V kM_L_96 kI_Bc_tag kV_Bc_tag kZ_8 kC_Bc_tag) rfl rfl rfl (by decide +kernel) ⟨(by decide +kernel), (by decide +kernel)⟩) ⟨ro_blind, va_recv hK hP (ci := 8) (q0 := 37) rfl rfl, ro_pre hK⟩ rfl rfl hl.1 rfl (lv_room (Nat.le_of_ble_eq_true rfl)) d_L_law_918 ⟨by show _ + 0 ≤ 637990; omega, by show _ + 0 ≤ 7188278; omega⟩) ?_
  refine W.eq (g2 := F0 m 921 ls [.int r]) rfl ?_
  refine lv_aload_n hx hb d_L_law_921 rfl (lv_at hl 1 rfl) ?_
  refine lv_aload_n hx hb d_L_law_922 rfl (lv_at hl 3 rfl) ?_
  refine lv_iload_n hx hb d_L_law_923 rfl (lv_at hl 0 rfl) ?_
  refine lv_iconst (v := 1) hx hb d_L_law_924 (by decide) ?_
  refine lv_iadd hx hb d_L_law_925 ?_
  refine va_sld hx hb hX hbl hbA hS (i := i + 1) (hr 1 (by omega)) d_L_law_926 ?_
  refine rw_i (y := v1) hv1.symm ?_
  refine lv_aload_n hx hb d_L_law_927 rfl (lv_at hl 3 rfl) ?_
  refine lv_iload_n hx hb d_L_law_928 rfl (lv_at hl 0 rfl) ?_
  refine lv_iconst (v := 2) hx hb d_L_law_929 (by decide) ?_
  refine lv_iadd hx hb d_L_law_930 ?_
  refine va_sld hx hb hX hbl hbA hS (i := i + 2) (hr 2 (by omega)) d_L_law_931 ?_
  refine rw_i (y := v2) hv2.symm ?_
  have hPx : va_P (dC, dI) vwCl (([] : va_W) ++ (w_Md_ q2 ad_md tC md ++ (w_Bc_ q1 ad_bc tC rf bc ++ (w_Sg_ (ad_bc 100) ad_sg tC sg ++ (w_Tr_ (ad_bc 104) ad_tr tC tr ++ (w_Tr_ (ad_bc 105) ad_tu tC tu ++ (w_Ff_ (ad_bc 103) ad_ff tC ff ++ (w_Pl_ (ad_bc 101) ad_pl tC pl ++ (w_Lw_ (ad_bc 102) ad_lw tC lw ++ (TAL tC nl hL adL LS ns gS aS nS SS FP hF adF FS)))))))))) _ := hP
  have hDx : va_D (lA s) (([] : va_W) ++ (w_Md_ q2 ad_md tC md ++ (w_Bc_ q1 ad_bc tC rf bc ++ (w_Sg_ (ad_bc 100) ad_sg tC sg ++ (w_Tr_ (ad_bc 104) ad_tr tC tr ++ (w_Tr_ (ad_bc 105) ad_tu tC tu ++ (w_Ff_ (ad_bc 103) ad_ff tC ff ++ (w_Pl_ (ad_bc 101) ad_pl tC pl ++ (w_Lw_ (ad_bc 102) ad_lw tC lw ++ (TAL tC nl hL adL LS ns gS aS nS SS FP hF adF FS)))))))))) := hD
  obtain ⟨hPc, hDc, hFc⟩ := bk_cut0 hPx hDx hS hA
  refine wr_go (va_runV (As := [.int v1, .int v2]) (rest := [.int r]) ⟨hx, hb, hml, hown, hts⟩ (m_Md_tag l dC dI tC q2 ad_md md v1 v2 (r, md2) e2 _) (cwV 2 hts (gd_V kM_L_99 kI_Md_tag kV_Md_tag kZ_9 kC_Md_tag) rfl rfl rfl (by decide +kernel) ⟨(by decide +kernel), (by decide +kernel)⟩) ⟨wr_blind, va_recv hK hP (ci := 9) (q0 := 0) rfl rfl, wr_pre hK hPc hDc⟩ rfl rfl hl.1 rfl (lv_room (Nat.le_of_ble_eq_true rfl)) d_L_law_932 ⟨by show _ + 0 ≤ 637990; omega, by show _ + 0 ≤ 7188278; omega⟩) hS hFc (fun r w1 H1 locs hw hP1 hD1 hk1 hS => ?_)
  obtain ⟨rfl, rfl⟩ := hw
  obtain ⟨hP, hD⟩ := bk_join0 (B1 := w_Md_ q2 ad_md tC md2) hPx hDx hk1 hP1 rfl
  clear hP1 hD1 hk1 hPc hDc hFc hPx hDx
  have hP : va_P (dC, dI) vwCl (w_Md_ q2 ad_md tC md2 ++ (w_Bc_ q1 ad_bc tC rf bc ++ (w_Sg_ (ad_bc 100) ad_sg tC sg ++ (w_Tr_ (ad_bc 104) ad_tr tC tr ++ (w_Tr_ (ad_bc 105) ad_tu tC tu ++ (w_Ff_ (ad_bc 103) ad_ff tC ff ++ (w_Pl_ (ad_bc 101) ad_pl tC pl ++ (w_Lw_ (ad_bc 102) ad_lw tC lw ++ (TAL tC nl hL adL LS ns gS aS nS SS FP hF adF FS))))))))) _ := hP
  have hD : va_D (lA s) (w_Md_ q2 ad_md tC md2 ++ (w_Bc_ q1 ad_bc tC rf bc ++ (w_Sg_ (ad_bc 100) ad_sg tC sg ++ (w_Tr_ (ad_bc 104) ad_tr tC tr ++ (w_Tr_ (ad_bc 105) ad_tu tC tu ++ (w_Ff_ (ad_bc 103) ad_ff tC ff ++ (w_Pl_ (ad_bc 101) ad_pl tC pl ++ (w_Lw_ (ad_bc 102) ad_lw tC lw ++ (TAL tC nl hL adL LS ns gS aS nS SS FP hF adF FS))))))))) := hD
  refine W.eq (g2 := F0 m 935 ls [.int r, .int r]) rfl ?_
  refine lv_icmp_eq (tgt := 1006) hx hb d_L_law_935 (by decide) (fun _ => ?_) (fun c9 => absurd rfl c9)
  refine W.widen (k := C + 3) (n := S + 43) (by omega) (by omega) ?_
  exact K _ _ hS ⟨a, ad_bc, ad_sg, ad_tr, ad_tu, ad_ff, ad_pl, ad_lw, ad_md, bc, sg, tr, tu, ff, pl, lw, md2, nl, hL, adL, aT, nT, LS, TS, FP, hF, adF, FS, rf, ns, gS, aS, nS, SS, sh, hP, hD, hFX, ok, rc, (rm.kept hk), rs, (hpl.keep hk), hns⟩
set_option maxHeartbeats 4000000 in
set_option maxRecDepth 100000 in
theorem law_18 {p : Program} {l : Launch} {e : Env} {s : State} {m : MethodId} {b L : Nat} {xs : Nat → Int32} {below : List Frame} {meth : Method} {c : Code} {Q : State → Prop} {dC : Nat → ClassId} {dI : Nat → Nat → Nat} {tC : Nat → ClassId} {q1 q2 : Nat} (h0 : LH p s m c b L xs dC dI tC) {H : Heap} {locs : List Loc} (hS : va_S (lA s) s.heap H locs) (hi : LInv s dC dI tC q1 q2 H) {i : Int32} (hr : ∀ k : Nat, k < 8 → vp_in (i + Int32.ofNat k) L) {C S : Nat} (hC : C + 3 ≤ 637990) (hC2 : S + 43 ≤ 7188278) {ls : Array Slot} (hl : lv_has ls 4 [(3, .int i), (2, .ref q2), (1, .ref q1), (0, .ref b)]) (K : ∀ (H : Heap) (locs : List Loc), va_S (lA s) s.heap H locs → LInv s dC dI tC q1 q2 H → W p l e room_1 s m #[Value.ref b] below meth c H locs (C + 3) (S + 43) Q (F0 m 1006 ls [])) : W p l e room_1 s m #[Value.ref b] below meth c H locs C S Q (F0 m 940 ls []) := by
  obtain ⟨hx, hb, hml, hown, hts, hX, hbl, hK, hN⟩ := h0
  have hA : ∀ q : Nat, s.heap.size ≤ q → lA s q := fun _ h => h
  have hbA : ¬ lA s b := Nat.not_le.mpr hbl
  obtain ⟨a, ad_bc, ad_sg, ad_tr, ad_tu, ad_ff, ad_pl, ad_lw, ad_md, bc, sg, tr, tu, ff, pl, lw, md, nl, hL, adL, aT, nT, LS, TS, FP, hF, adF, FS, rf, ns, gS, aS, nS, SS, sh, hP, hD, hFX, ok, rc, rm, rs, hpl, hns⟩ := hi
  have hFM : FM tC (TAL tC nl hL adL LS ns gS aS nS SS FP hF adF FS) nl hL adL aT nT LS TS FP hF adF FS rf := hFX.fm (fun _ h => h)
  obtain ⟨v1, hv1⟩ : ∃ z : Int32, z = (xs (i + 1).toNatClampNeg) := ⟨_, rfl⟩
  obtain ⟨v2, hv2⟩ : ∃ z : Int32, z = (xs (i + 2).toNatClampNeg) := ⟨_, rfl⟩
  obtain ⟨v3, hv3⟩ : ∃ z : Int32, z = (xs (i + 3).toNatClampNeg) := ⟨_, rfl⟩
  obtain ⟨r, e1, e2⟩ := x_differs (tr := tr) (tu := tu) (ff := ff) (pl := pl) (lw := lw) ok rc rm v1 v2 v3
  refine lv_aload_n hx hb d_L_law_940 rfl (lv_at hl 2 rfl) ?_
  refine lv_aload_n hx hb d_L_law_941 rfl (lv_at hl 3 rfl) ?_
  refine lv_iload_n hx hb d_L_law_942 rfl (lv_at hl 0 rfl) ?_
  refine lv_iconst (v := 1) hx hb d_L_law_943 (by decide) ?_
  refine lv_iadd hx hb d_L_law_944 ?_
  refine va_sld hx hb hX hbl hbA hS (i := i + 1) (hr 1 (by omega)) d_L_law_945 ?_
  refine rw_i (y := v1) hv1.symm ?_
  refine lv_aload_n hx hb d_L_law_946 rfl (lv_at hl 3 rfl) ?_
  refine lv_iload_n hx hb d_L_law_947 rfl (lv_at hl 0 rfl) ?_
  refine lv_iconst (v := 2) hx hb d_L_law_948 (by decide) ?_
  refine lv_iadd hx hb d_L_law_949 ?_
  refine va_sld hx hb hX hbl hbA hS (i := i + 2) (hr 2 (by omega)) d_L_law_950 ?_
  refine rw_i (y := v2) hv2.symm ?_
  refine lv_aload_n hx hb d_L_law_951 rfl (lv_at hl 3 rfl) ?_
  refine lv_iload_n hx hb d_L_law_952 rfl (lv_at hl 0 rfl) ?_
  refine lv_iconst (v := 3) hx hb d_L_law_953 (by decide) ?_
  refine lv_iadd hx hb d_L_law_954 ?_
  refine va_sld hx hb hX hbl hbA hS (i := i + 3) (hr 3 (by omega)) d_L_law_955 ?_
  refine rw_i (y := v3) hv3.symm ?_
  refine ro_go rfl (va_runV (As := [.int v1, .int v2, .int v3]) (rest := []) ⟨hx, hb, hml, hown, hts⟩ (m_Bc_differs l dC dI tC (TAL tC nl hL adL LS ns gS aS nS SS FP hF adF FS) nl hL adL aT nT LS TS FP hF adF FS rf q1 ad_bc bc ad_sg sg ad_tr tr ad_tu tu ad_ff ff ad_pl pl ad_lw lw v1 v2 v3 r _ hFM (va_P_in hP (fun q h => List.mem_append_right _ h)) e1) (cwV 3 hts (gd_V kM_L_100 kI_Bc_differs kV_Bc_differs kZ_8 kC_Bc_differs) rfl rfl rfl (by decide +kernel) ⟨(by decide +kernel), (by decide +kernel)⟩) ⟨ro_blind, va_recv hK hP (ci := 8) (q0 := 37) rfl rfl, ro_pre hK⟩ rfl rfl hl.1 rfl (lv_room (Nat.le_of_ble_eq_true rfl)) d_L_law_956 ⟨by show _ + 0 ≤ 637990; omega, by show _ + 0 ≤ 7188278; omega⟩) ?_
  refine W.eq (g2 := F0 m 959 ls [.int r]) rfl ?_
  refine lv_aload_n hx hb d_L_law_959 rfl (lv_at hl 1 rfl) ?_
  refine lv_aload_n hx hb d_L_law_960 rfl (lv_at hl 3 rfl) ?_
  refine lv_iload_n hx hb d_L_law_961 rfl (lv_at hl 0 rfl) ?_
  refine lv_iconst (v := 1) hx hb d_L_law_962 (by decide) ?_
  refine lv_iadd hx hb d_L_law_963 ?_
  refine va_sld hx hb hX hbl hbA hS (i := i + 1) (hr 1 (by omega)) d_L_law_964 ?_
  refine rw_i (y := v1) hv1.symm ?_
  refine lv_aload_n hx hb d_L_law_965 rfl (lv_at hl 3 rfl) ?_
  refine lv_iload_n hx hb d_L_law_966 rfl (lv_at hl 0 rfl) ?_
  refine lv_iconst (v := 2) hx hb d_L_law_967 (by decide) ?_
  refine lv_iadd hx hb d_L_law_968 ?_
  refine va_sld hx hb hX hbl hbA hS (i := i + 2) (hr 2 (by omega)) d_L_law_969 ?_
  refine rw_i (y := v2) hv2.symm ?_
  refine lv_aload_n hx hb d_L_law_970 rfl (lv_at hl 3 rfl) ?_
  refine lv_iload_n hx hb d_L_law_971 rfl (lv_at hl 0 rfl) ?_
  refine lv_iconst (v := 3) hx hb d_L_law_972 (by decide) ?_
  refine lv_iadd hx hb d_L_law_973 ?_
  refine va_sld hx hb hX hbl hbA hS (i := i + 3) (hr 3 (by omega)) d_L_law_974 ?_
  refine rw_i (y := v3) hv3.symm ?_
  refine ro_go rfl (va_runV (As := [.int v1, .int v2, .int v3]) (rest := [.int r]) ⟨hx, hb, hml, hown, hts⟩ (m_Md_differs l dC dI tC q2 ad_md md v1 v2 v3 r _ (va_P_in hP (fun q h => List.mem_append_left _ h)) e2) (cwV 3 hts (gd_V kM_L_103 kI_Md_differs kV_Md_differs kZ_9 kC_Md_differs) rfl rfl rfl (by decide +kernel) ⟨(by decide +kernel), (by decide +kernel)⟩) ⟨ro_blind, va_recv hK hP (ci := 9) (q0 := 0) rfl rfl, ro_pre hK⟩ rfl rfl hl.1 rfl (lv_room (Nat.le_of_ble_eq_true rfl)) d_L_law_975 ⟨by show _ + 0 ≤ 637990; omega, by show _ + 0 ≤ 7188278; omega⟩) ?_
  refine W.eq (g2 := F0 m 978 ls [.int r, .int r]) rfl ?_
  refine lv_icmp_eq (tgt := 1006) hx hb d_L_law_978 (by decide) (fun _ => ?_) (fun c9 => absurd rfl c9)
  refine W.widen (k := C + 3) (n := S + 43) (by omega) (by omega) ?_
  exact K _ _ hS ⟨a, ad_bc, ad_sg, ad_tr, ad_tu, ad_ff, ad_pl, ad_lw, ad_md, bc, sg, tr, tu, ff, pl, lw, md, nl, hL, adL, aT, nT, LS, TS, FP, hF, adF, FS, rf, ns, gS, aS, nS, SS, sh, hP, hD, hFX, ok, rc, rm, rs, hpl, hns⟩
set_option maxHeartbeats 4000000 in
set_option maxRecDepth 100000 in
theorem law_19 {p : Program} {l : Launch} {e : Env} {s : State} {m : MethodId} {b L : Nat} {xs : Nat → Int32} {below : List Frame} {meth : Method} {c : Code} {Q : State → Prop} {dC : Nat → ClassId} {dI : Nat → Nat → Nat} {tC : Nat → ClassId} {q1 q2 : Nat} (h0 : LH p s m c b L xs dC dI tC) {H : Heap} {locs : List Loc} (hS : va_S (lA s) s.heap H locs) (hi : LInv s dC dI tC q1 q2 H) {i : Int32} (hr : ∀ k : Nat, k < 8 → vp_in (i + Int32.ofNat k) L) {C S : Nat} (hC : C + 3 ≤ 637990) (hC2 : S + 43 ≤ 7188278) {ls : Array Slot} (hl : lv_has ls 4 [(3, .int i), (2, .ref q2), (1, .ref q1), (0, .ref b)]) (K : ∀ (H : Heap) (locs : List Loc), va_S (lA s) s.heap H locs → LInv s dC dI tC q1 q2 H → W p l e room_1 s m #[Value.ref b] below meth c H locs (C + 3) (S + 43) Q (F0 m 1006 ls [])) : W p l e room_1 s m #[Value.ref b] below meth c H locs C S Q (F0 m 983 ls []) := by
  obtain ⟨hx, hb, hml, hown, hts, hX, hbl, hK, hN⟩ := h0
  have hA : ∀ q : Nat, s.heap.size ≤ q → lA s q := fun _ h => h
  have hbA : ¬ lA s b := Nat.not_le.mpr hbl
  obtain ⟨a, ad_bc, ad_sg, ad_tr, ad_tu, ad_ff, ad_pl, ad_lw, ad_md, bc, sg, tr, tu, ff, pl, lw, md, nl, hL, adL, aT, nT, LS, TS, FP, hF, adF, FS, rf, ns, gS, aS, nS, SS, sh, hP, hD, hFX, ok, rc, rm, rs, hpl, hns⟩ := hi
  have hFM : FM tC (TAL tC nl hL adL LS ns gS aS nS SS FP hF adF FS) nl hL adL aT nT LS TS FP hF adF FS rf := hFX.fm (fun _ h => h)
  obtain ⟨v1, hv1⟩ : ∃ z : Int32, z = (xs (i + 1).toNatClampNeg) := ⟨_, rfl⟩
  obtain ⟨r, e1, e2⟩ := x_order (tr := tr) (tu := tu) (ff := ff) (pl := pl) (lw := lw) ok rc rm v1
  refine lv_aload_n hx hb d_L_law_983 rfl (lv_at hl 2 rfl) ?_
  refine lv_aload_n hx hb d_L_law_984 rfl (lv_at hl 3 rfl) ?_
  refine lv_iload_n hx hb d_L_law_985 rfl (lv_at hl 0 rfl) ?_
  refine lv_iconst (v := 1) hx hb d_L_law_986 (by decide) ?_
  refine lv_iadd hx hb d_L_law_987 ?_
  refine va_sld hx hb hX hbl hbA hS (i := i + 1) (hr 1 (by omega)) d_L_law_988 ?_
  refine rw_i (y := v1) hv1.symm ?_
  refine ro_go rfl (va_runV (As := [.int v1]) (rest := []) ⟨hx, hb, hml, hown, hts⟩ (m_Bc_order l dC dI tC (TAL tC nl hL adL LS ns gS aS nS SS FP hF adF FS) nl hL adL aT nT LS TS FP hF adF FS rf q1 ad_bc bc ad_sg sg ad_tr tr ad_tu tu ad_ff ff ad_pl pl ad_lw lw v1 r _ hFM (va_P_in hP (fun q h => List.mem_append_right _ h)) e1) (cwV 1 hts (gd_V kM_L_104 kI_Bc_order kV_Bc_order kZ_8 kC_Bc_order) rfl rfl rfl (by decide +kernel) ⟨(by decide +kernel), (by decide +kernel)⟩) ⟨ro_blind, va_recv hK hP (ci := 8) (q0 := 37) rfl rfl, ro_pre hK⟩ rfl rfl hl.1 rfl (lv_room (Nat.le_of_ble_eq_true rfl)) d_L_law_989 ⟨by show _ + 0 ≤ 637990; omega, by show _ + 0 ≤ 7188278; omega⟩) ?_
  refine W.eq (g2 := F0 m 992 ls [.int r]) rfl ?_
  refine lv_aload_n hx hb d_L_law_992 rfl (lv_at hl 1 rfl) ?_
  refine lv_aload_n hx hb d_L_law_993 rfl (lv_at hl 3 rfl) ?_
  refine lv_iload_n hx hb d_L_law_994 rfl (lv_at hl 0 rfl) ?_
  refine lv_iconst (v := 1) hx hb d_L_law_995 (by decide) ?_
  refine lv_iadd hx hb d_L_law_996 ?_
  refine va_sld hx hb hX hbl hbA hS (i := i + 1) (hr 1 (by omega)) d_L_law_997 ?_
  refine rw_i (y := v1) hv1.symm ?_
  refine ro_go rfl (va_runV (As := [.int v1]) (rest := [.int r]) ⟨hx, hb, hml, hown, hts⟩ (m_Md_order l dC dI tC q2 ad_md md v1 r _ (va_P_in hP (fun q h => List.mem_append_left _ h)) e2) (cwV 1 hts (gd_V kM_L_108 kI_Md_order kV_Md_order kZ_9 kC_Md_order) rfl rfl rfl (by decide +kernel) ⟨(by decide +kernel), (by decide +kernel)⟩) ⟨ro_blind, va_recv hK hP (ci := 9) (q0 := 0) rfl rfl, ro_pre hK⟩ rfl rfl hl.1 rfl (lv_room (Nat.le_of_ble_eq_true rfl)) d_L_law_998 ⟨by show _ + 0 ≤ 637990; omega, by show _ + 0 ≤ 7188278; omega⟩) ?_
  refine W.eq (g2 := F0 m 1001 ls [.int r, .int r]) rfl ?_
  refine lv_icmp_eq (tgt := 1006) hx hb d_L_law_1001 (by decide) (fun _ => ?_) (fun c9 => absurd rfl c9)
  refine W.widen (k := C + 3) (n := S + 43) (by omega) (by omega) ?_
  exact K _ _ hS ⟨a, ad_bc, ad_sg, ad_tr, ad_tu, ad_ff, ad_pl, ad_lw, ad_md, bc, sg, tr, tu, ff, pl, lw, md, nl, hL, adL, aT, nT, LS, TS, FP, hF, adF, FS, rf, ns, gS, aS, nS, SS, sh, hP, hD, hFX, ok, rc, rm, rs, hpl, hns⟩
