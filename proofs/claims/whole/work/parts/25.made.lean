/-! what is made: new cells stand first in the tail -/
theorem pm_D {A : Nat → Prop} {ws ws' : va_W} (hp : ws'.Perm ws) (h : va_D A ws) : va_D A ws' := by
  have hn : (ws.map Prod.fst).Nodup := by
    rw [List.nodup_iff_pairwise_ne, List.pairwise_iff_getElem]
    intro i j hi hj hij he
    have hi' : i < ws.length := by simpa using hi
    have hj' : j < ws.length := by simpa using hj
    have := h.1 i j ws[i] ws[j] (List.getElem?_eq_getElem hi') (List.getElem?_eq_getElem hj') (by simpa using he)
    omega
  have hn' : (ws'.map Prod.fst).Nodup := ((hp.map Prod.fst).nodup_iff).mpr hn
  refine ⟨fun i j p q h1 h2 h3 => ?_, fun k q hk => ?_⟩
  · have e1 : (ws'.map Prod.fst)[i]? = some p.1 := by rw [List.getElem?_map, h1]; rfl
    have e2 : (ws'.map Prod.fst)[j]? = some q.1 := by rw [List.getElem?_map, h2]; rfl
    rw [h3] at e1
    exact (List.getElem?_inj (List.getElem?_eq_some_iff.mp e1).1 hn').mp (e1.trans e2.symm)
  · exact D_in h (hp.mem_iff.mp (List.mem_of_getElem? hk))
theorem pm_P {D : va_G} {cl : List vw_C} {ws ws' : va_W} {H : Heap} (hp : ws'.Perm ws) (h : va_P D cl ws H) : va_P D cl ws' H := va_P_in h (fun _ hq => hp.mem_iff.mp hq)
theorem pm_rot {X TL N : va_W} : (X ++ (N ++ TL)).Perm ((X ++ TL) ++ N) := by
  rw [List.append_assoc]; exact List.Perm.append_left X List.perm_append_comm
theorem bk_joinN {A : Nat → Prop} {D : va_G} {cl : List vw_C} {pre B B1 S1 TL N : va_W} {H H1 : Heap} (hP : va_P D cl (pre ++ (B ++ (S1 ++ TL))) H) (hD : va_D A (pre ++ (B ++ (S1 ++ TL))))
    (hk : ∀ q : Nat, q < H.size → ¬ va_A B H.size q → H1[q]? = H[q]?) (hF : ∀ q, va_A B H.size q → A q) (hP1 : va_P D cl (B1 ++ N) H1) (hD1 : va_D (va_A B H.size) (B1 ++ N)) : va_P D cl (pre ++ (B1 ++ (S1 ++ (N ++ TL)))) H1 ∧ va_D A (pre ++ (B1 ++ (S1 ++ (N ++ TL)))) := by
  have e1 : ((pre ++ (S1 ++ TL)) ++ B).Perm (pre ++ (B ++ (S1 ++ TL))) := by
    rw [List.append_assoc]; exact List.Perm.append_left pre List.perm_append_comm
  obtain ⟨h1, h2⟩ := jn_A (pm_P e1 hP) (pm_D e1 hD) hk hF hP1 hD1
  have e2 : (pre ++ (B1 ++ (S1 ++ (N ++ TL)))).Perm ((pre ++ (S1 ++ TL)) ++ (B1 ++ N)) := by
    rw [List.append_assoc]
    refine List.Perm.append_left pre ?_
    refine List.Perm.trans ?_ List.perm_append_comm
    rw [List.append_assoc]
    refine List.Perm.append_left B1 ?_
    rw [← List.append_assoc, ← List.append_assoc]
    exact List.Perm.append_right TL List.perm_append_comm
  exact ⟨pm_P e2 h1, pm_D e2 h2⟩
theorem tn_le {n : Int32} {k : Nat} (h : 0 ≤ n ∧ n ≤ 40) (e : n.toNatClampNeg = k) : k ≤ 40 := by
  have h1 := Int32.le_iff_toInt_le.mp h.2
  have h2 : n.toNatClampNeg = n.toInt.toNat := rfl
  have h3 : (40 : Int32).toInt = 40 := by decide
  omega
def w_Tx_ (h : Nat) (_ad : Nat → Nat) (tC : Nat → ClassId) (nT : Nat) (S : MS) : va_W := [(h, .inl (tC 2, nT, .inl (S.2.1 0)))]
theorem wu_Tx_a0 {h : Nat} {ad : Nat → Nat} {tC : Nat → ClassId} {nT : Nat} {S : MS} {f : Nat → Int32} : List.set (w_Tx_ h ad tC nT S) 0 (h, .inl (tC 2, nT, .inl f)) = w_Tx_ h ad tC nT (sA S 0 f) := rfl
/-- the state of a shape that is made -/
def mkSh (n : Nat) (tx : MS) (g : Int32) : MS := sI (sI (fun _ => 0, fun _ => tx.2.1 0, fun _ _ => 0) 0 ((Int32.ofNat n + 1) / 2)) 1 g
theorem wu_Bc_r0 {h : Nat} {ad : Nat → Nat} {tC : Nat → ClassId} {rf : Nat → Nat → Option Nat} {S : MS} {f : Nat → Option Nat} : List.set (w_Bc_ h ad tC rf S) 1 (ad 0, .inl (tC 4, 10, .inr (.inr (.inr (.inr f))))) = w_Bc_ h ad tC (va_up rf 0 f) S := rfl
theorem wu_Bc_r1 {h : Nat} {ad : Nat → Nat} {tC : Nat → ClassId} {rf : Nat → Nat → Option Nat} {S : MS} {f : Nat → Option Nat} : List.set (w_Bc_ h ad tC rf S) 2 (ad 1, .inl (tC 5, 12, .inr (.inr (.inr (.inr f))))) = w_Bc_ h ad tC (va_up rf 1 f) S := rfl
theorem wu_Bc_r2 {h : Nat} {ad : Nat → Nat} {tC : Nat → ClassId} {rf : Nat → Nat → Option Nat} {S : MS} {f : Nat → Option Nat} : List.set (w_Bc_ h ad tC rf S) 4 (ad 3, .inl (tC 6, 37, .inr (.inr (.inr (.inr f))))) = w_Bc_ h ad tC (va_up rf 2 f) S := rfl
theorem sl_Bc_1 {h : Nat} {ad : Nat → Nat} {tC : Nat → ClassId} {rf : Nat → Nat → Option Nat} {S : MS} {Y : va_W} {c : Nat × va_E} : List.set (w_Bc_ h ad tC rf S ++ Y) 1 c = List.set (w_Bc_ h ad tC rf S) 1 c ++ Y := rfl
theorem sl_Bc_2 {h : Nat} {ad : Nat → Nat} {tC : Nat → ClassId} {rf : Nat → Nat → Option Nat} {S : MS} {Y : va_W} {c : Nat × va_E} : List.set (w_Bc_ h ad tC rf S ++ Y) 2 c = List.set (w_Bc_ h ad tC rf S) 2 c ++ Y := rfl
theorem sl_Bc_4 {h : Nat} {ad : Nat → Nat} {tC : Nat → ClassId} {rf : Nat → Nat → Option Nat} {S : MS} {Y : va_W} {c : Nat × va_E} : List.set (w_Bc_ h ad tC rf S ++ Y) 4 c = List.set (w_Bc_ h ad tC rf S) 4 c ++ Y := rfl
def l_Sg_toShape_11 : Nat → Int32 → Int32 → Nat → MS → MS → Option (Int32 × Int32 × MS)
  | 0, _, _, _, _, _ => none
  | n + 1, x2, x3, tx_nT, sg, tx => (if (sg.1 0) ≤ x3 then some (x2, x3, tx) else if ix x3 40 then if ix x3 tx_nT then (some (sA tx 0 (upd (tx.2.1 0) x3.toNatClampNeg (vp_nar .char ((sg.2.1 0) x3.toNatClampNeg))))).bind fun tx5 => (if (x3 - x3 / 2 * 2) = 0 then (some (x2 + 0) : Option Int32).bind fun v7 => l_Sg_toShape_11 n v7 (x3 + 1) tx_nT sg tx5 else if ix x3 40 then (f_Sg_quartersOf ((sg.2.1 0) x3.toNatClampNeg)).bind fun q9 => (some (x2 + q9) : Option Int32).bind fun v10 => l_Sg_toShape_11 n v10 (x3 + 1) tx_nT sg tx5 else none) else none else none)
def f_Sg_toShape (sg : MS) : Option (Nat × MS × Int32) := if 0 ≤ (sg.1 0) ∧ (sg.1 0) ≤ 40 then (some ((sg.1 0).toNatClampNeg) : Option Nat).bind fun tx_nT => (some S0).bind fun tx1 => (l_Sg_toShape_11 fu 0 0 tx_nT sg tx1).bind fun q1 => some (tx_nT, q1.2.2, q1.1) else none
def rm_Sg_toShape : Room := { frames := 2, cells := 2, slots := 43, locals := 100 }
set_option maxHeartbeats 4000000 in
set_option maxRecDepth 100000 in
theorem m_Sg_toShape (l : Launch) (dC : Nat → ClassId) (dI : Nat → Nat → Nat) (tC : Nat → ClassId) (h_sg : Nat) (ad_sg : Nat → Nat) (sg : MS) (R : Nat × MS × Int32) (hf : f_Sg_toShape sg = some R) (sz : Nat) : Met l y_Sg_toShape w_Sg_toShape rm_Sg_toShape (wrP (dC, dI) tC (w_Sg_ h_sg ad_sg tC sg) sz [.ref h_sg]) (wrQ (dC, dI) (w_Sg_ h_sg ad_sg tC sg) sz (fun r w => ∃ q a : Nat, r = some (.ref q) ∧ w = w_Sg_ h_sg ad_sg tC sg ++ w_Sh_ q (fun _ => a) tC R.1 (mkSh R.1 R.2.1 R.2.2))) 2 43 (va_A (w_Sg_ h_sg ad_sg tC sg) sz) := by
  refine Met.ofW (cc := c_Sg_toShape) (maxL := 4) (ret := (some (.object "BarCutting$Shape"))) (by decide) rfl ?_
  intro p e s m args below meth c s₁ B hml hv
  obtain ⟨hav, hsz, hP, hK, hD0⟩ := hv
  have hx := B.exec
  have hb := B.bytes
  have hr := B.returns
  have hts : ∀ w ∈ gw, w.before args s = true := fun w h => atoms_spec (ws := w_Sg_toShape) B.pre w (List.mem_cons_of_mem _ h)
  have hown : s.vm.findClass RX6 = some m.cls := findClass_of_methodNamed B.named
  have hlocks := B.notSynchronized
  subst hsz
  have hD := hD0.self (sz := s.heap.size)
  obtain ⟨A, hAe⟩ : ∃ z, z = va_A (w_Sg_ h_sg ad_sg tC sg) s.heap.size := ⟨_, rfl⟩
  rw [← hAe] at hD
  have hA : ∀ q : Nat, s.heap.size ≤ q → A q := fun q h => by rw [hAe]; exact Or.inr h
  have hS : va_S A s.heap s.heap [] := va_S.rf
  refine q_w (R := rm_Sg_toShape) (fun Q hQ => ?_)
  refine en_w (av := [.ref h_sg]) hav (Nat.le_of_ble_eq_true rfl) (fun ls hl => ?_)
  have hl : lv_has ls 4 [(0, .ref h_sg)] := hl
  unfold f_Sg_toShape at hf
  refine lv_aload_n hx hb d_Sg_toShape_0 rfl (lv_at hl 0 rfl) ?_
  refine va_get (D := (dC, dI)) (ci := 6) (v := .int (sg.1 0)) (C := RX6) (T := TX6) (N := 2) hx hb hts in_X6 hown hK hP 0 rfl rfl 1 (by decide) (hts _ kF_6_15) (fun _ h9 => h9) rfl d_Sg_toShape_1 ?_
  obtain ⟨hz, hf⟩ := op_if hf
  obtain ⟨tx_nT, htx, hf⟩ := op_b hf
  obtain ⟨tx1, htx1, hf⟩ := op_b hf
  have hle := tn_le hz (Option.some.inj htx)
  refine xa_new (atype := .char) (ty := .char) (n := (sg.1 0)) (N' := tx_nT) (a0 := (tx_nT, .inl (fun _ => 0))) hx hb (hts _ kA_char) rfl hK 2 rfl (fun _ _ => rfl) hP hD hS hA (xv_char _) (Int32.not_lt.mpr hz.1) (Option.some.inj htx) (by show tx_nT * 2 ≤ 536870912; omega) (by decide +kernel) (by show 0 + tx_nT ≤ 43; omega) d_Sg_toShape_4 (fun qA H hP hD hS => ?_)
  have hP : va_P (dC, dI) vwCl (w_Sg_ h_sg ad_sg tC sg ++ w_Tx_ qA (fun _ => 0) tC tx_nT tx1) H := by rw [← Option.some.inj htx1]; exact hP
  have hD : va_D A (w_Sg_ h_sg ad_sg tC sg ++ w_Tx_ qA (fun _ => 0) tC tx_nT tx1) := by rw [← Option.some.inj htx1]; exact hD
  refine W.widen (k := 1) (n := 40) (by decide) (by omega) ?_
  refine lv_astore_n (lv' := [(1, .ref qA), (0, .ref h_sg)]) hx hb d_Sg_toShape_6 rfl hl (by decide) rfl (fun ls hl => ?_)
  refine lv_iconst (v := 0) hx hb d_Sg_toShape_7 (by decide) ?_
  refine lv_istore_n (lv' := [(2, .int 0), (1, .ref qA), (0, .ref h_sg)]) hx hb d_Sg_toShape_8 rfl hl (by decide) rfl (fun ls hl => ?_)
  refine lv_iconst (v := 0) hx hb d_Sg_toShape_9 (by decide) ?_
  refine lv_istore_n (lv' := [(3, .int 0), (2, .int 0), (1, .ref qA), (0, .ref h_sg)]) hx hb d_Sg_toShape_10 rfl hl (by decide) rfl (fun ls hl => ?_)
  have lp_11 : ∀ (n : Nat) (x2 : Int32) (x3 : Int32) (tx : MS) (Rl : Int32 × Int32 × MS), l_Sg_toShape_11 n x2 x3 tx_nT sg tx = some Rl → ∀ (H : Heap) (locs : List Loc), va_P (dC, dI) vwCl (w_Sg_ h_sg ad_sg tC sg ++ w_Tx_ qA (fun _ => 0) tC tx_nT tx) H → va_D A (w_Sg_ h_sg ad_sg tC sg ++ w_Tx_ qA (fun _ => 0) tC tx_nT tx) → va_S A s.heap H locs → ∀ ls : Array Slot, lv_has ls 4 [(3, .int x3), (2, .int x2), (1, .ref qA), (0, .ref h_sg)] → (∀ (H : Heap) (locs : List Loc), va_P (dC, dI) vwCl (w_Sg_ h_sg ad_sg tC sg ++ w_Tx_ qA (fun _ => 0) tC tx_nT Rl.2.2) H → va_D A (w_Sg_ h_sg ad_sg tC sg ++ w_Tx_ qA (fun _ => 0) tC tx_nT Rl.2.2) → va_S A s.heap H locs → ∀ ls : Array Slot, lv_has ls 4 [(3, .int Rl.2.1), (2, .int Rl.1), (1, .ref qA), (0, .ref h_sg)] → W p l e rm_Sg_toShape s m args below meth c H locs 1 40 Q (F0 m 56 ls [])) → W p l e rm_Sg_toShape s m args below meth c H locs 1 40 Q (F0 m 11 ls []) := by
    intro n
    induction n with
    | zero => intro x2 x3 tx Rl hf; cases hf
    | succ n ih_11 =>
      intro x2 x3 tx Rl hf H locs hP hD hS ls hl Kk
      rw [l_Sg_toShape_11] at hf
      refine lv_iload_n hx hb d_Sg_toShape_11 rfl (lv_at hl 0 rfl) ?_
      refine lv_aload_n hx hb d_Sg_toShape_12 rfl (lv_at hl 3 rfl) ?_
      refine va_get (D := (dC, dI)) (ci := 6) (v := .int (sg.1 0)) (C := RX6) (T := TX6) (N := 2) hx hb hts in_X6 hown hK hP 0 rfl rfl 1 (by decide) (hts _ kF_6_15) (fun _ h9 => h9) rfl d_Sg_toShape_13 ?_
      refine lv_icmp_ge (tgt := 56) hx hb d_Sg_toShape_16 (by decide) (fun c2 => ?_) (fun c2 => ?_)
      · have hf := op_t hf c2
        obtain rfl := Option.some.inj hf
        exact Kk _ _ hP hD hS _ (lv_sub hl [0, 1, 2, 3] rfl)
      · have hf := op_e hf c2
        refine lv_aload_n hx hb d_Sg_toShape_19 rfl (lv_at hl 2 rfl) ?_
        refine lv_iload_n hx hb d_Sg_toShape_20 rfl (lv_at hl 0 rfl) ?_
        refine lv_aload_n hx hb d_Sg_toShape_21 rfl (lv_at hl 3 rfl) ?_
        refine va_get (D := (dC, dI)) (ci := 6) (v := .ref (ad_sg 0)) (C := RX6) (T := TX6) (N := 2) hx hb hts in_X6 hown hK hP 0 rfl rfl 0 (by decide) (hts _ kF_6_9) (fun _ h9 => h9) rfl d_Sg_toShape_22 ?_
        refine lv_iload_n hx hb d_Sg_toShape_25 rfl (lv_at hl 0 rfl) ?_
        obtain ⟨hi3, hf⟩ := op_if hf
        refine va_cald (f := sg.2.1 0) hx hb hK hP 1 2 rfl rfl (ix_in hi3) d_Sg_toShape_26 ?_
        obtain ⟨hi4, hf⟩ := op_if hf
        refine va_cast (f := tx.2.1 0) hx hb hK hP hD hS 2 2 rfl rfl (ix_in hi4) d_Sg_toShape_27 (fun H locs hP hD hS => ?_)
        rw [sr_Sg, wu_Tx_a0] at hP hD
        obtain ⟨tx5, htx5, hf⟩ := op_b hf
        have hP : va_P (dC, dI) vwCl (w_Sg_ h_sg ad_sg tC sg ++ w_Tx_ qA (fun _ => 0) tC tx_nT tx5) H := by rw [← Option.some.inj htx5]; exact hP
        have hD : va_D A (w_Sg_ h_sg ad_sg tC sg ++ w_Tx_ qA (fun _ => 0) tC tx_nT tx5) := by rw [← Option.some.inj htx5]; exact hD
        refine lv_iload_n hx hb d_Sg_toShape_28 rfl (lv_at hl 1 rfl) ?_
        refine lv_iload_n hx hb d_Sg_toShape_29 rfl (lv_at hl 0 rfl) ?_
        refine lv_iconst (v := 2) hx hb d_Sg_toShape_30 (by decide) ?_
        refine lv_irem hx hb d_Sg_toShape_31 (by decide) ?_
        refine lv_if_ne (tgt := 39) hx hb d_Sg_toShape_32 (by decide) (fun c6 => ?_) (fun c6 => ?_)
        · have hf := op_e hf c6
          refine lv_aload_n hx hb d_Sg_toShape_39 rfl (lv_at hl 3 rfl) ?_
          refine va_get (D := (dC, dI)) (ci := 6) (v := .ref (ad_sg 0)) (C := RX6) (T := TX6) (N := 2) hx hb hts in_X6 hown hK hP 0 rfl rfl 0 (by decide) (hts _ kF_6_9) (fun _ h9 => h9) rfl d_Sg_toShape_40 ?_
          refine lv_iload_n hx hb d_Sg_toShape_43 rfl (lv_at hl 0 rfl) ?_
          obtain ⟨hi8, hf⟩ := op_if hf
          refine va_cald (f := sg.2.1 0) hx hb hK hP 1 2 rfl rfl (ix_in hi8) d_Sg_toShape_44 ?_
          obtain ⟨q9, hq9, hf⟩ := op_b hf
          refine ro_go rfl (va_runS (As := [.int ((sg.2.1 0) x3.toNatClampNeg)]) (rest := [.int x2]) ⟨hx, hb, hml, hown, hts⟩ (m_Sg_quartersOf l dC dI tC ((sg.2.1 0) x3.toNatClampNeg) q9 _  hq9) (cwS 1 hts (gd_S kM_6_23 kS_Sg_quartersOf kZ_6 kC_Sg_quartersOf) rfl rfl rfl (by decide +kernel) ⟨(Nat.le_of_ble_eq_true rfl), (Nat.le_of_ble_eq_true rfl)⟩) ⟨ro_blind, ro_pre hK⟩ rfl rfl hl.1 rfl (lv_room (Nat.le_of_ble_eq_true rfl)) d_Sg_toShape_45 ⟨(Nat.le_of_ble_eq_true rfl), (Nat.le_of_ble_eq_true rfl)⟩) ?_
          refine W.eq (g2 := F0 m 48 ls [.int q9, .int x2]) rfl ?_
          refine lv_iadd hx hb d_Sg_toShape_48 ?_
          obtain ⟨v10, hv10, hf⟩ := op_b hf
          refine rw_i (y := v10) (Option.some.inj hv10) ?_
          refine lv_istore_n (lv' := [(2, .int v10), (3, .int x3), (1, .ref qA), (0, .ref h_sg)]) hx hb d_Sg_toShape_49 rfl hl (by decide) rfl (fun ls hl => ?_)
          refine lv_iinc (v := x3 + 1) (lv' := [(3, .int (x3 + 1)), (2, .int v10), (1, .ref qA), (0, .ref h_sg)]) hx hb d_Sg_toShape_50 hl (k := 1) rfl rfl (by decide) rfl (fun ls hl => ?_)
          refine lv_goto (tgt := 11) hx hb d_Sg_toShape_53 (by decide) ?_
          exact ih_11 v10 (x3 + 1) tx5 Rl hf _ _ hP hD hS _ (lv_sub hl [0, 1, 2, 3] rfl) Kk
        · have hf := op_t hf c6
          refine lv_iconst (v := 0) hx hb d_Sg_toShape_35 (by decide) ?_
          refine lv_goto (tgt := 48) hx hb d_Sg_toShape_36 (by decide) ?_
          refine lv_iadd hx hb d_Sg_toShape_48 ?_
          obtain ⟨v7, hv7, hf⟩ := op_b hf
          refine rw_i (y := v7) (Option.some.inj hv7) ?_
          refine lv_istore_n (lv' := [(2, .int v7), (3, .int x3), (1, .ref qA), (0, .ref h_sg)]) hx hb d_Sg_toShape_49 rfl hl (by decide) rfl (fun ls hl => ?_)
          refine lv_iinc (v := x3 + 1) (lv' := [(3, .int (x3 + 1)), (2, .int v7), (1, .ref qA), (0, .ref h_sg)]) hx hb d_Sg_toShape_50 hl (k := 1) rfl rfl (by decide) rfl (fun ls hl => ?_)
          refine lv_goto (tgt := 11) hx hb d_Sg_toShape_53 (by decide) ?_
          exact ih_11 v7 (x3 + 1) tx5 Rl hf _ _ hP hD hS _ (lv_sub hl [0, 1, 2, 3] rfl) Kk
  obtain ⟨q1, hq1, hf⟩ := op_b hf
  refine lp_11 fu 0 0 tx1 q1 hq1 _ _ hP hD hS _ (lv_sub hl [0, 1, 2, 3] rfl) ?_
  intro H locs hP hD hS ls hl
  refine va_new (ci := 4) (fs := [.null, .int 0, .int 0]) (C := RX4) (T := TX4) (N := 3) hx hb hts in_X4 tyX4 tyX4_ok hown (hts _ kL_6_27) (hts _ kN_4) (hts _ kZ_4) hK hP hD hS hA rfl (fun j hj => (by decide +kernel : ∀ j, j < 3 → defaultValue (tyX4 j) = vp_V [.null, .int 0, .int 0] j) j hj) (by decide +kernel) (by decide +kernel) d_Sg_toShape_56 (fun qB H hP hD hS => ?_)
  refine lv_dup hx hb d_Sg_toShape_59 rfl ?_
  refine lv_aload_n hx hb d_Sg_toShape_60 rfl (lv_at hl 2 rfl) ?_
  refine lv_iload_n hx hb d_Sg_toShape_61 rfl (lv_at hl 1 rfl) ?_
  have hPx := hP.sub (ws' := w_Sg_ h_sg ad_sg tC sg ++ [(qB, .inr (4, [.null, .int 0, .int 0])), (qA, .inl (tC 2, tx_nT, .inl (q1.2.2.2.1 0)))]) [0, 1, 3, 2] rfl
  have hDx := hD.sub (ws' := w_Sg_ h_sg ad_sg tC sg ++ [(qB, .inr (4, [.null, .int 0, .int 0])), (qA, .inl (tC 2, tx_nT, .inl (q1.2.2.2.1 0)))]) [0, 1, 3, 2] (by decide) rfl
  have hPc := va_P_in hPx (w := [(qB, .inr (4, [.null, .int 0, .int 0])), (qA, .inl (tC 2, tx_nT, .inl (q1.2.2.2.1 0)))]) (fun q h => List.mem_append_right _ h)
  have hDc : va_D A [(qB, .inr (4, [.null, .int 0, .int 0])), (qA, .inl (tC 2, tx_nT, .inl (q1.2.2.2.1 0)))] := D_r hDx
  have hFc : ∀ q, va_A [(qB, .inr (4, [.null, .int 0, .int 0])), (qA, .inl (tC 2, tx_nT, .inl (q1.2.2.2.1 0)))] H.size q → A q := va_freeAll hDc hS hA
  refine wr_go (va_runI (As := [.ref qA, .int q1.1]) (rest := [.ref qB]) ⟨hx, hb, hml, hown, hts⟩ (m_Sh_init l dC dI tC qB qA tx_nT (q1.2.2.2.1 0) q1.1 H.size) (cwI 2 hts (gd_O kC_Sh_init) rfl rfl rfl (hts _ kZ_4) (hts _ kM_6_29) (hts _ kI_Sh_init) rfl (by decide +kernel) ⟨(Nat.le_of_ble_eq_true rfl), (Nat.le_of_ble_eq_true rfl)⟩) ⟨wr_blind, wr_pre hK hPc hDc⟩ rfl rfl hl.1 rfl (lv_room (Nat.le_of_ble_eq_true rfl)) d_Sg_toShape_62 ⟨(by decide +kernel), (by decide +kernel)⟩) hS hFc (fun r w1 H1 locs hw hP1 hD1 hk1 hS => ?_)
  obtain ⟨rfl, rfl⟩ := hw
  obtain ⟨hP, hD⟩ := jn_A hPx hDx hk1 hFc hP1 hD1
  clear hP1 hD1 hk1 hPc hDc hFc hPx hDx
  refine W.eq (g2 := F0 m 65 ls [.ref qB]) rfl ?_
  obtain rfl := Option.some.inj hf
  subst hQ
  subst hAe
  refine W.widen (k := 2) (n := 43) (by decide +kernel) (by decide +kernel) ?_
  exact W.aret (v := .ref qB) (rt := .object "BarCutting$Shape") hx hb hr (Or.inl ⟨_, rfl⟩) (Or.inr ⟨_, rfl⟩) (fun t ht hW => ⟨⟨_, _, rfl, ⟨qB, qA, rfl, rfl⟩, by rw [ht]; exact hP, hD⟩, hS.F ht⟩) hS.2.2 d_Sg_toShape_65
def f_Bc_shape (nl : Nat) (nT : Nat → Nat) (LS : Nat → MS) (TS : Nat → MS) (FP : Nat → Bool) (FS : Nat → MS) (bc : MS) (sg : MS) (tr : MS) (tu : MS) (ff : MS) (pl : MS) (lw : MS) : Option (Int32 × MS × MS × MS × MS × MS × MS × MS × Option (Nat × MS)) := (f_Sg_firstWrong sg).bind fun q1 => (some (sg.1 0) : Option Int32).bind fun v2 => (if 0 ≤ q1 then (some (sI sg 0 0)).bind fun sg4 => (if 0 ≤ q1 then some ((-1) - q1, bc, sg4, tr, tu, ff, pl, lw, none) else some ((-1) - v2, bc, sg4, tr, tu, ff, pl, lw, none)) else (if 10 ≤ (bc.1 0) then (some (sI sg 0 0)).bind fun sg7 => (if 0 ≤ q1 then some ((-1) - q1, bc, sg7, tr, tu, ff, pl, lw, none) else some ((-1) - v2, bc, sg7, tr, tu, ff, pl, lw, none)) else (f_Sg_toShape sg).bind fun q9 => (some (mkSh q9.1 q9.2.1 q9.2.2)).bind fun nw1 => (some q9.1 : Option Nat).bind fun nw_nT => (some (sI sg 0 0)).bind fun sg10 => if ix (bc.1 0) 10 then (some (sI bc 0 ((bc.1 0) + 1))).bind fun bc12 => some ((bc12.1 0) - 1, bc12, sg10, tr, tu, ff, pl, lw, some (nw_nT, nw1)) else none))
def rm_Bc_shape : Room := { frames := 3, cells := 2, slots := 43, locals := 123 }
set_option maxHeartbeats 4000000 in
set_option maxRecDepth 100000 in
theorem m_Bc_shape (l : Launch) (dC : Nat → ClassId) (dI : Nat → Nat → Nat) (tC : Nat → ClassId) (TL : va_W) (nl : Nat) (hL : Nat → Nat) (adL aT : Nat → Nat → Nat) (nT : Nat → Nat) (LS TS : Nat → MS) (FP : Nat → Bool) (hF : Nat → Nat) (adF : Nat → Nat → Nat) (FS : Nat → MS) (rf : Nat → Nat → Option Nat) (h_bc : Nat) (ad_bc : Nat → Nat) (bc : MS) (ad_sg : Nat → Nat) (sg : MS) (ad_tr : Nat → Nat) (tr : MS) (ad_tu : Nat → Nat) (tu : MS) (ad_ff : Nat → Nat) (ff : MS) (ad_pl : Nat → Nat) (pl : MS) (ad_lw : Nat → Nat) (lw : MS) (R : Int32 × MS × MS × MS × MS × MS × MS × MS × Option (Nat × MS)) (hFM : FM tC TL nl hL adL aT nT LS TS FP hF adF FS rf) (hf : f_Bc_shape nl nT LS TS FP FS bc sg tr tu ff pl lw = some R) (sz : Nat) : Met l y_Bc_shape w_Bc_shape rm_Bc_shape (wrP (dC, dI) tC (w_Bc_ h_bc ad_bc tC rf bc ++ (w_Sg_ (ad_bc 100) ad_sg tC sg ++ (w_Tr_ (ad_bc 104) ad_tr tC tr ++ (w_Tr_ (ad_bc 105) ad_tu tC tu ++ (w_Ff_ (ad_bc 103) ad_ff tC ff ++ (w_Pl_ (ad_bc 101) ad_pl tC pl ++ (w_Lw_ (ad_bc 102) ad_lw tC lw ++ TL))))))) sz [.ref h_bc]) (wrQ (dC, dI) (w_Bc_ h_bc ad_bc tC rf bc ++ (w_Sg_ (ad_bc 100) ad_sg tC sg ++ (w_Tr_ (ad_bc 104) ad_tr tC tr ++ (w_Tr_ (ad_bc 105) ad_tu tC tu ++ (w_Ff_ (ad_bc 103) ad_ff tC ff ++ (w_Pl_ (ad_bc 101) ad_pl tC pl ++ (w_Lw_ (ad_bc 102) ad_lw tC lw ++ TL))))))) sz (fun r w => r = some (.int R.1) ∧ ((R.2.2.2.2.2.2.2.2 = none ∧ w = (w_Bc_ h_bc ad_bc tC rf R.2.1 ++ (w_Sg_ (ad_bc 100) ad_sg tC R.2.2.1 ++ (w_Tr_ (ad_bc 104) ad_tr tC R.2.2.2.1 ++ (w_Tr_ (ad_bc 105) ad_tu tC R.2.2.2.2.1 ++ (w_Ff_ (ad_bc 103) ad_ff tC R.2.2.2.2.2.1 ++ (w_Pl_ (ad_bc 101) ad_pl tC R.2.2.2.2.2.2.1 ++ (w_Lw_ (ad_bc 102) ad_lw tC R.2.2.2.2.2.2.2.1 ++ TL)))))))) ∨ (∃ x, R.2.2.2.2.2.2.2.2 = some x ∧ ∃ (q : Nat) (a : Nat), w = (w_Bc_ h_bc ad_bc tC (va_up rf 0 (va_up (rf 0) (bc.1 0).toNatClampNeg (some q))) R.2.1 ++ (w_Sg_ (ad_bc 100) ad_sg tC R.2.2.1 ++ (w_Tr_ (ad_bc 104) ad_tr tC R.2.2.2.1 ++ (w_Tr_ (ad_bc 105) ad_tu tC R.2.2.2.2.1 ++ (w_Ff_ (ad_bc 103) ad_ff tC R.2.2.2.2.2.1 ++ (w_Pl_ (ad_bc 101) ad_pl tC R.2.2.2.2.2.2.1 ++ (w_Lw_ (ad_bc 102) ad_lw tC R.2.2.2.2.2.2.2.1 ++ ((w_Sh_ q (fun _ => a) tC x.1 x.2 ++ TL))))))))))))) 2 43 (va_A (w_Bc_ h_bc ad_bc tC rf bc ++ (w_Sg_ (ad_bc 100) ad_sg tC sg ++ (w_Tr_ (ad_bc 104) ad_tr tC tr ++ (w_Tr_ (ad_bc 105) ad_tu tC tu ++ (w_Ff_ (ad_bc 103) ad_ff tC ff ++ (w_Pl_ (ad_bc 101) ad_pl tC pl ++ (w_Lw_ (ad_bc 102) ad_lw tC lw ++ TL))))))) sz) := by
  refine Met.ofW (cc := c_Bc_shape) (maxL := 4) (ret := (some (.int))) (by decide) rfl ?_
  intro p e s m args below meth c s₁ B hml hv
  obtain ⟨hav, hsz, hP, hK, hD0⟩ := hv
  have hx := B.exec
  have hb := B.bytes
  have hr := B.returns
  have hts : ∀ w ∈ gw, w.before args s = true := fun w h => atoms_spec (ws := w_Bc_shape) B.pre w (List.mem_cons_of_mem _ h)
  have hown : s.vm.findClass RX8 = some m.cls := findClass_of_methodNamed B.named
  have hlocks := B.notSynchronized
  subst hsz
  have hD := hD0.self (sz := s.heap.size)
  obtain ⟨A, hAe⟩ : ∃ z, z = va_A (w_Bc_ h_bc ad_bc tC rf bc ++ (w_Sg_ (ad_bc 100) ad_sg tC sg ++ (w_Tr_ (ad_bc 104) ad_tr tC tr ++ (w_Tr_ (ad_bc 105) ad_tu tC tu ++ (w_Ff_ (ad_bc 103) ad_ff tC ff ++ (w_Pl_ (ad_bc 101) ad_pl tC pl ++ (w_Lw_ (ad_bc 102) ad_lw tC lw ++ TL))))))) s.heap.size := ⟨_, rfl⟩
  rw [← hAe] at hD
  have hA : ∀ q : Nat, s.heap.size ≤ q → A q := fun q h => by rw [hAe]; exact Or.inr h
  have hS : va_S A s.heap s.heap [] := va_S.rf
  refine q_w (R := rm_Bc_shape) (fun Q hQ => ?_)
  refine en_w (av := [.ref h_bc]) hav (Nat.le_of_ble_eq_true rfl) (fun ls hl => ?_)
  have hl : lv_has ls 4 [(0, .ref h_bc)] := hl
  unfold f_Bc_shape at hf
  refine lv_aload_n hx hb d_Bc_shape_0 rfl (lv_at hl 0 rfl) ?_
  refine va_get (D := (dC, dI)) (ci := 8) (v := .ref (ad_bc 100)) (C := RX8) (T := TX8) (N := 12) hx hb hts in_X8 hown hK hP 0 rfl rfl 0 (by decide) (hts _ kF_8_12) (fun _ h9 => h9) rfl d_Bc_shape_1 ?_
  obtain ⟨q1, hq1, hf⟩ := op_b hf
  refine ro_go rfl (va_runV (As := []) (rest := []) ⟨hx, hb, hml, hown, hts⟩ (m_Sg_firstWrong l dC dI tC (ad_bc 100) ad_sg sg q1 _ (hP.sub (ws' := (w_Sg_ (ad_bc 100) ad_sg tC sg)) [5, 6] rfl) hq1) (cwV 0 hts (gd_V kM_8_80 kI_Sg_firstWrong kV_Sg_firstWrong kZ_6 kC_Sg_firstWrong) rfl rfl rfl (by decide +kernel) ⟨(Nat.le_of_ble_eq_true rfl), (Nat.le_of_ble_eq_true rfl)⟩) ⟨ro_blind, va_recv hK hP (ci := 6) (q0 := 5) rfl rfl, ro_pre hK⟩ rfl rfl hl.1 rfl (lv_room (Nat.le_of_ble_eq_true rfl)) d_Bc_shape_4 ⟨(Nat.le_of_ble_eq_true rfl), (Nat.le_of_ble_eq_true rfl)⟩) ?_
  refine W.eq (g2 := F0 m 7 ls [.int q1]) rfl ?_
  refine lv_istore_n (lv' := [(1, .int q1), (0, .ref h_bc)]) hx hb d_Bc_shape_7 rfl hl (by decide) rfl (fun ls hl => ?_)
  refine lv_aload_n hx hb d_Bc_shape_8 rfl (lv_at hl 1 rfl) ?_
  refine va_get (D := (dC, dI)) (ci := 8) (v := .ref (ad_bc 100)) (C := RX8) (T := TX8) (N := 12) hx hb hts in_X8 hown hK hP 0 rfl rfl 0 (by decide) (hts _ kF_8_12) (fun _ h9 => h9) rfl d_Bc_shape_9 ?_
  refine va_get (D := (dC, dI)) (ci := 6) (v := .int (sg.1 0)) (C := RX6) (T := TX6) (N := 2) hx hb hts in_X6 hown hK hP 5 rfl rfl 1 (by decide) (hts _ kF_8_84) (fun _ h9 => h9) rfl d_Bc_shape_12 ?_
  obtain ⟨v2, hv2, hf⟩ := op_b hf
  refine rw_i (y := v2) (Option.some.inj hv2) ?_
  refine lv_istore_n (lv' := [(2, .int v2), (1, .int q1), (0, .ref h_bc)]) hx hb d_Bc_shape_15 rfl hl (by decide) rfl (fun ls hl => ?_)
  refine lv_iload_n hx hb d_Bc_shape_16 rfl (lv_at hl 1 rfl) ?_
  refine lv_if_ge (tgt := 39) hx hb d_Bc_shape_17 (by decide) (fun c3 => ?_) (fun c3 => ?_)
  · have hf := op_t hf c3
    refine lv_null hx hb d_Bc_shape_39 ?_
    refine lv_astore_nN (lv' := [(3, .null), (2, .int v2), (1, .int q1), (0, .ref h_bc)]) hx hb d_Bc_shape_40 rfl hl (by decide) rfl (fun ls hl => ?_)
    refine lv_aload_n hx hb d_Bc_shape_41 rfl (lv_at hl 3 rfl) ?_
    refine va_get (D := (dC, dI)) (ci := 8) (v := .ref (ad_bc 100)) (C := RX8) (T := TX8) (N := 12) hx hb hts in_X8 hown hK hP 0 rfl rfl 0 (by decide) (hts _ kF_8_12) (fun _ h9 => h9) rfl d_Bc_shape_42 ?_
    refine lv_iconst (v := 0) hx hb d_Bc_shape_45 (by decide) ?_
    refine va_put (D := (dC, dI)) (ci := 6) (v := .int 0) (ty := .int) (C := RX6) (T := TX6) (N := 2) hx hb hts in_X6 tyX6 tyX6_ok nmX6 hown hK hP hD hS 5 (fs := [.ref (ad_sg 0), .int (sg.1 0)]) rfl rfl 1 (by decide) (hts _ kF_8_84) (fun _ h9 => h9) rfl (by decide +kernel) (rfl) (rfl) (Nat.le_of_ble_eq_true rfl) d_Bc_shape_46 (fun H locs hP hD hS => ?_)
    rw [sr_Bc, sl_Sg_0, wu_Sg_s0] at hP hD
    obtain ⟨sg4, hsg4, hf⟩ := op_b hf
    have hP : va_P (dC, dI) vwCl (w_Bc_ h_bc ad_bc tC rf bc ++ (w_Sg_ (ad_bc 100) ad_sg tC sg4 ++ (w_Tr_ (ad_bc 104) ad_tr tC tr ++ (w_Tr_ (ad_bc 105) ad_tu tC tu ++ (w_Ff_ (ad_bc 103) ad_ff tC ff ++ (w_Pl_ (ad_bc 101) ad_pl tC pl ++ (w_Lw_ (ad_bc 102) ad_lw tC lw ++ TL))))))) H := by rw [← Option.some.inj hsg4]; exact hP
    have hD : va_D A (w_Bc_ h_bc ad_bc tC rf bc ++ (w_Sg_ (ad_bc 100) ad_sg tC sg4 ++ (w_Tr_ (ad_bc 104) ad_tr tC tr ++ (w_Tr_ (ad_bc 105) ad_tu tC tu ++ (w_Ff_ (ad_bc 103) ad_ff tC ff ++ (w_Pl_ (ad_bc 101) ad_pl tC pl ++ (w_Lw_ (ad_bc 102) ad_lw tC lw ++ TL))))))) := by rw [← Option.some.inj hsg4]; exact hD
    refine lv_aload_nN hx hb d_Bc_shape_49 rfl (lv_at hl 0 rfl) ?_
    refine lv_ifnonnullN hx hb d_Bc_shape_50 ?_
    refine lv_iconst (v := (-1)) hx hb d_Bc_shape_53 (by decide) ?_
    refine lv_iload_n hx hb d_Bc_shape_54 rfl (lv_at hl 2 rfl) ?_
    refine lv_if_ge (tgt := 62) hx hb d_Bc_shape_55 (by decide) (fun c5 => ?_) (fun c5 => ?_)
    · have hf := op_t hf c5
      refine lv_iload_n hx hb d_Bc_shape_62 rfl (lv_at hl 2 rfl) ?_
      refine lv_isub hx hb d_Bc_shape_63 ?_
      obtain rfl := Option.some.inj hf
      subst hQ
      subst hAe
      refine W.widen (k := 2) (n := 43) (by decide +kernel) (by decide +kernel) ?_
      exact W.iret (v := (-1) - q1) hx hb hr (fun t ht hW => ⟨⟨_, _, rfl, ⟨rfl, Or.inl ⟨rfl, rfl⟩⟩, by rw [ht]; exact hP, hD⟩, hS.F ht⟩) hS.2.2 d_Bc_shape_64
    · have hf := op_e hf c5
      refine lv_iload_n hx hb d_Bc_shape_58 rfl (lv_at hl 1 rfl) ?_
      refine lv_goto (tgt := 63) hx hb d_Bc_shape_59 (by decide) ?_
      refine lv_isub hx hb d_Bc_shape_63 ?_
      obtain rfl := Option.some.inj hf
      subst hQ
      subst hAe
      refine W.widen (k := 2) (n := 43) (by decide +kernel) (by decide +kernel) ?_
      exact W.iret (v := (-1) - v2) hx hb hr (fun t ht hW => ⟨⟨_, _, rfl, ⟨rfl, Or.inl ⟨rfl, rfl⟩⟩, by rw [ht]; exact hP, hD⟩, hS.F ht⟩) hS.2.2 d_Bc_shape_64
  · have hf := op_e hf c3
    refine lv_aload_n hx hb d_Bc_shape_20 rfl (lv_at hl 2 rfl) ?_
    refine va_get (D := (dC, dI)) (ci := 8) (v := .int (bc.1 0)) (C := RX8) (T := TX8) (N := 12) hx hb hts in_X8 hown hK hP 0 rfl rfl 10 (by decide) (hts _ kF_8_69) (fun _ h9 => h9) rfl d_Bc_shape_21 ?_
    refine lv_bipush (v := 10) hx hb d_Bc_shape_24 (by decide) ?_
    refine lv_icmp_ge (tgt := 39) hx hb d_Bc_shape_26 (by decide) (fun c6 => ?_) (fun c6 => ?_)
    · have hf := op_t hf c6
      refine lv_null hx hb d_Bc_shape_39 ?_
      refine lv_astore_nN (lv' := [(3, .null), (2, .int v2), (1, .int q1), (0, .ref h_bc)]) hx hb d_Bc_shape_40 rfl hl (by decide) rfl (fun ls hl => ?_)
      refine lv_aload_n hx hb d_Bc_shape_41 rfl (lv_at hl 3 rfl) ?_
      refine va_get (D := (dC, dI)) (ci := 8) (v := .ref (ad_bc 100)) (C := RX8) (T := TX8) (N := 12) hx hb hts in_X8 hown hK hP 0 rfl rfl 0 (by decide) (hts _ kF_8_12) (fun _ h9 => h9) rfl d_Bc_shape_42 ?_
      refine lv_iconst (v := 0) hx hb d_Bc_shape_45 (by decide) ?_
      refine va_put (D := (dC, dI)) (ci := 6) (v := .int 0) (ty := .int) (C := RX6) (T := TX6) (N := 2) hx hb hts in_X6 tyX6 tyX6_ok nmX6 hown hK hP hD hS 5 (fs := [.ref (ad_sg 0), .int (sg.1 0)]) rfl rfl 1 (by decide) (hts _ kF_8_84) (fun _ h9 => h9) rfl (by decide +kernel) (rfl) (rfl) (Nat.le_of_ble_eq_true rfl) d_Bc_shape_46 (fun H locs hP hD hS => ?_)
      rw [sr_Bc, sl_Sg_0, wu_Sg_s0] at hP hD
      obtain ⟨sg7, hsg7, hf⟩ := op_b hf
      have hP : va_P (dC, dI) vwCl (w_Bc_ h_bc ad_bc tC rf bc ++ (w_Sg_ (ad_bc 100) ad_sg tC sg7 ++ (w_Tr_ (ad_bc 104) ad_tr tC tr ++ (w_Tr_ (ad_bc 105) ad_tu tC tu ++ (w_Ff_ (ad_bc 103) ad_ff tC ff ++ (w_Pl_ (ad_bc 101) ad_pl tC pl ++ (w_Lw_ (ad_bc 102) ad_lw tC lw ++ TL))))))) H := by rw [← Option.some.inj hsg7]; exact hP
      have hD : va_D A (w_Bc_ h_bc ad_bc tC rf bc ++ (w_Sg_ (ad_bc 100) ad_sg tC sg7 ++ (w_Tr_ (ad_bc 104) ad_tr tC tr ++ (w_Tr_ (ad_bc 105) ad_tu tC tu ++ (w_Ff_ (ad_bc 103) ad_ff tC ff ++ (w_Pl_ (ad_bc 101) ad_pl tC pl ++ (w_Lw_ (ad_bc 102) ad_lw tC lw ++ TL))))))) := by rw [← Option.some.inj hsg7]; exact hD
      refine lv_aload_nN hx hb d_Bc_shape_49 rfl (lv_at hl 0 rfl) ?_
      refine lv_ifnonnullN hx hb d_Bc_shape_50 ?_
      refine lv_iconst (v := (-1)) hx hb d_Bc_shape_53 (by decide) ?_
      refine lv_iload_n hx hb d_Bc_shape_54 rfl (lv_at hl 2 rfl) ?_
      refine lv_if_ge (tgt := 62) hx hb d_Bc_shape_55 (by decide) (fun c8 => ?_) (fun c8 => ?_)
      · have hf := op_t hf c8
        refine lv_iload_n hx hb d_Bc_shape_62 rfl (lv_at hl 2 rfl) ?_
        refine lv_isub hx hb d_Bc_shape_63 ?_
        obtain rfl := Option.some.inj hf
        subst hQ
        subst hAe
        refine W.widen (k := 2) (n := 43) (by decide +kernel) (by decide +kernel) ?_
        exact W.iret (v := (-1) - q1) hx hb hr (fun t ht hW => ⟨⟨_, _, rfl, ⟨rfl, Or.inl ⟨rfl, rfl⟩⟩, by rw [ht]; exact hP, hD⟩, hS.F ht⟩) hS.2.2 d_Bc_shape_64
      · have hf := op_e hf c8
        refine lv_iload_n hx hb d_Bc_shape_58 rfl (lv_at hl 1 rfl) ?_
        refine lv_goto (tgt := 63) hx hb d_Bc_shape_59 (by decide) ?_
        refine lv_isub hx hb d_Bc_shape_63 ?_
        obtain rfl := Option.some.inj hf
        subst hQ
        subst hAe
        refine W.widen (k := 2) (n := 43) (by decide +kernel) (by decide +kernel) ?_
        exact W.iret (v := (-1) - v2) hx hb hr (fun t ht hW => ⟨⟨_, _, rfl, ⟨rfl, Or.inl ⟨rfl, rfl⟩⟩, by rw [ht]; exact hP, hD⟩, hS.F ht⟩) hS.2.2 d_Bc_shape_64
    · have hf := op_e hf c6
      refine lv_aload_n hx hb d_Bc_shape_29 rfl (lv_at hl 2 rfl) ?_
      refine va_get (D := (dC, dI)) (ci := 8) (v := .ref (ad_bc 100)) (C := RX8) (T := TX8) (N := 12) hx hb hts in_X8 hown hK hP 0 rfl rfl 0 (by decide) (hts _ kF_8_12) (fun _ h9 => h9) rfl d_Bc_shape_30 ?_
      obtain ⟨q9, hq9, hf⟩ := op_b hf
      have hPx := cv_P (ws' := (w_Bc_ h_bc ad_bc tC rf bc ++ (w_Sg_ (ad_bc 100) ad_sg tC sg ++ ((w_Tr_ (ad_bc 104) ad_tr tC tr ++ (w_Tr_ (ad_bc 105) ad_tu tC tu ++ (w_Ff_ (ad_bc 103) ad_ff tC ff ++ (w_Pl_ (ad_bc 101) ad_pl tC pl ++ w_Lw_ (ad_bc 102) ad_lw tC lw)))) ++ TL)))) hP (by simp only [List.append_assoc])
      have hDx := cv_D (ws' := (w_Bc_ h_bc ad_bc tC rf bc ++ (w_Sg_ (ad_bc 100) ad_sg tC sg ++ ((w_Tr_ (ad_bc 104) ad_tr tC tr ++ (w_Tr_ (ad_bc 105) ad_tu tC tu ++ (w_Ff_ (ad_bc 103) ad_ff tC ff ++ (w_Pl_ (ad_bc 101) ad_pl tC pl ++ w_Lw_ (ad_bc 102) ad_lw tC lw)))) ++ TL)))) hD (by simp only [List.append_assoc])
      obtain ⟨hPc, hDc, hFc⟩ := bk_cut0 hPx hDx hS hA
      refine wr_go (va_runV (As := []) (rest := []) ⟨hx, hb, hml, hown, hts⟩ (m_Sg_toShape l dC dI tC (ad_bc 100) ad_sg sg q9 hq9 _) (cwV 0 hts (gd_V kM_8_87 kI_Sg_toShape kV_Sg_toShape kZ_6 kC_Sg_toShape) rfl rfl rfl (by decide +kernel) ⟨(Nat.le_of_ble_eq_true rfl), (Nat.le_of_ble_eq_true rfl)⟩) ⟨wr_blind, va_recv hK hP (ci := 6) (q0 := 5) rfl rfl, wr_pre hK hPc hDc⟩ rfl rfl hl.1 rfl (lv_room (Nat.le_of_ble_eq_true rfl)) d_Bc_shape_33 ⟨(by decide +kernel), (by decide +kernel)⟩) hS hFc (fun r w1 H1 locs hw hP1 hD1 hk1 hS => ?_)
      obtain ⟨qB, qC, rfl, rfl⟩ := hw
      obtain ⟨hP, hD⟩ := bk_joinN hPx hDx hk1 hFc hP1 hD1
      clear hP1 hD1 hk1 hPc hDc hFc hPx hDx
      obtain ⟨nw1, hnw1, hf⟩ := op_b hf
      obtain ⟨nw_nT, hnt, hf⟩ := op_b hf
      rw [Option.some.inj hnw1, Option.some.inj hnt] at hP hD
      have hP := cv_P (ws' := (w_Bc_ h_bc ad_bc tC rf bc ++ (w_Sg_ (ad_bc 100) ad_sg tC sg ++ (w_Tr_ (ad_bc 104) ad_tr tC tr ++ (w_Tr_ (ad_bc 105) ad_tu tC tu ++ (w_Ff_ (ad_bc 103) ad_ff tC ff ++ (w_Pl_ (ad_bc 101) ad_pl tC pl ++ (w_Lw_ (ad_bc 102) ad_lw tC lw ++ (w_Sh_ qB (fun _ => qC) tC nw_nT nw1 ++ TL))))))))) hP (by simp only [List.append_assoc])
      have hD := cv_D (ws' := (w_Bc_ h_bc ad_bc tC rf bc ++ (w_Sg_ (ad_bc 100) ad_sg tC sg ++ (w_Tr_ (ad_bc 104) ad_tr tC tr ++ (w_Tr_ (ad_bc 105) ad_tu tC tu ++ (w_Ff_ (ad_bc 103) ad_ff tC ff ++ (w_Pl_ (ad_bc 101) ad_pl tC pl ++ (w_Lw_ (ad_bc 102) ad_lw tC lw ++ (w_Sh_ qB (fun _ => qC) tC nw_nT nw1 ++ TL))))))))) hD (by simp only [List.append_assoc])
      refine W.eq (g2 := F0 m 36 ls [.ref qB]) rfl ?_
      refine lv_goto (tgt := 40) hx hb d_Bc_shape_36 (by decide) ?_
      refine lv_astore_n (lv' := [(3, .ref qB), (2, .int v2), (1, .int q1), (0, .ref h_bc)]) hx hb d_Bc_shape_40 rfl hl (by decide) rfl (fun ls hl => ?_)
      refine lv_aload_n hx hb d_Bc_shape_41 rfl (lv_at hl 3 rfl) ?_
      refine va_get (D := (dC, dI)) (ci := 8) (v := .ref (ad_bc 100)) (C := RX8) (T := TX8) (N := 12) hx hb hts in_X8 hown hK hP 0 rfl rfl 0 (by decide) (hts _ kF_8_12) (fun _ h9 => h9) rfl d_Bc_shape_42 ?_
      refine lv_iconst (v := 0) hx hb d_Bc_shape_45 (by decide) ?_
      refine va_put (D := (dC, dI)) (ci := 6) (v := .int 0) (ty := .int) (C := RX6) (T := TX6) (N := 2) hx hb hts in_X6 tyX6 tyX6_ok nmX6 hown hK hP hD hS 5 (fs := [.ref (ad_sg 0), .int (sg.1 0)]) rfl rfl 1 (by decide) (hts _ kF_8_84) (fun _ h9 => h9) rfl (by decide +kernel) (rfl) (rfl) (Nat.le_of_ble_eq_true rfl) d_Bc_shape_46 (fun H locs hP hD hS => ?_)
      rw [sr_Bc, sl_Sg_0, wu_Sg_s0] at hP hD
      obtain ⟨sg10, hsg10, hf⟩ := op_b hf
      have hP : va_P (dC, dI) vwCl (w_Bc_ h_bc ad_bc tC rf bc ++ (w_Sg_ (ad_bc 100) ad_sg tC sg10 ++ (w_Tr_ (ad_bc 104) ad_tr tC tr ++ (w_Tr_ (ad_bc 105) ad_tu tC tu ++ (w_Ff_ (ad_bc 103) ad_ff tC ff ++ (w_Pl_ (ad_bc 101) ad_pl tC pl ++ (w_Lw_ (ad_bc 102) ad_lw tC lw ++ (w_Sh_ qB (fun _ => qC) tC nw_nT nw1 ++ TL)))))))) H := by rw [← Option.some.inj hsg10]; exact hP
      have hD : va_D A (w_Bc_ h_bc ad_bc tC rf bc ++ (w_Sg_ (ad_bc 100) ad_sg tC sg10 ++ (w_Tr_ (ad_bc 104) ad_tr tC tr ++ (w_Tr_ (ad_bc 105) ad_tu tC tu ++ (w_Ff_ (ad_bc 103) ad_ff tC ff ++ (w_Pl_ (ad_bc 101) ad_pl tC pl ++ (w_Lw_ (ad_bc 102) ad_lw tC lw ++ (w_Sh_ qB (fun _ => qC) tC nw_nT nw1 ++ TL)))))))) := by rw [← Option.some.inj hsg10]; exact hD
      refine lv_aload_n hx hb d_Bc_shape_49 rfl (lv_at hl 0 rfl) ?_
      refine lv_ifnonnull (tgt := 65) hx hb d_Bc_shape_50 (by decide) ?_
      refine lv_aload_n hx hb d_Bc_shape_65 rfl (lv_at hl 3 rfl) ?_
      refine va_get (D := (dC, dI)) (ci := 8) (v := .ref (ad_bc 0)) (C := RX8) (T := TX8) (N := 12) hx hb hts in_X8 hown hK hP 0 rfl rfl 1 (by decide) (hts _ kF_8_18) (fun _ h9 => h9) rfl d_Bc_shape_66 ?_
      refine lv_aload_n hx hb d_Bc_shape_69 rfl (lv_at hl 3 rfl) ?_
      refine va_get (D := (dC, dI)) (ci := 8) (v := .int (bc.1 0)) (C := RX8) (T := TX8) (N := 12) hx hb hts in_X8 hown hK hP 0 rfl rfl 10 (by decide) (hts _ kF_8_69) (fun _ h9 => h9) rfl d_Bc_shape_70 ?_
      refine lv_aload_n hx hb d_Bc_shape_73 rfl (lv_at hl 0 rfl) ?_
      obtain ⟨hi11, hf⟩ := op_if hf
      refine va_astq (f := rf 0) hx hb hK hP hD hS 1 4 38 4 rfl rfl rfl rfl (ix_in hi11) d_Bc_shape_74 (fun H locs hP hD hS => ?_)
      rw [sl_Bc_1, wu_Bc_r0] at hP hD
      obtain ⟨rf1, hrf1⟩ : ∃ z, z = va_up rf 0 (va_up (rf 0) (bc.1 0).toNatClampNeg (some qB)) := ⟨_, rfl⟩
      rw [← hrf1] at hP hD
      refine lv_aload_n hx hb d_Bc_shape_75 rfl (lv_at hl 3 rfl) ?_
      refine lv_dup hx hb d_Bc_shape_76 rfl ?_
      refine va_get (D := (dC, dI)) (ci := 8) (v := .int (bc.1 0)) (C := RX8) (T := TX8) (N := 12) hx hb hts in_X8 hown hK hP 0 rfl rfl 10 (by decide) (hts _ kF_8_69) (fun _ h9 => h9) rfl d_Bc_shape_77 ?_
      refine lv_iconst (v := 1) hx hb d_Bc_shape_80 (by decide) ?_
      refine lv_iadd hx hb d_Bc_shape_81 ?_
      refine va_put (D := (dC, dI)) (ci := 8) (v := .int ((bc.1 0) + 1)) (ty := .int) (C := RX8) (T := TX8) (N := 12) hx hb hts in_X8 tyX8 tyX8_ok nmX8 hown hK hP hD hS 0 (fs := [.ref (ad_bc 100), .ref (ad_bc 0), .ref (ad_bc 1), .ref (ad_bc 2), .ref (ad_bc 3), .ref (ad_bc 101), .ref (ad_bc 102), .ref (ad_bc 103), .ref (ad_bc 104), .ref (ad_bc 105), .int (bc.1 0), .int (bc.1 1)]) rfl rfl 10 (by decide) (hts _ kF_8_69) (fun _ h9 => h9) rfl (by decide +kernel) (rfl) (rfl) (Nat.le_of_ble_eq_true rfl) d_Bc_shape_82 (fun H locs hP hD hS => ?_)
      rw [sl_Bc_0, wu_Bc_s0] at hP hD
      obtain ⟨bc12, hbc12, hf⟩ := op_b hf
      have hP : va_P (dC, dI) vwCl (w_Bc_ h_bc ad_bc tC rf1 bc12 ++ (w_Sg_ (ad_bc 100) ad_sg tC sg10 ++ (w_Tr_ (ad_bc 104) ad_tr tC tr ++ (w_Tr_ (ad_bc 105) ad_tu tC tu ++ (w_Ff_ (ad_bc 103) ad_ff tC ff ++ (w_Pl_ (ad_bc 101) ad_pl tC pl ++ (w_Lw_ (ad_bc 102) ad_lw tC lw ++ (w_Sh_ qB (fun _ => qC) tC nw_nT nw1 ++ TL)))))))) H := by rw [← Option.some.inj hbc12]; exact hP
      have hD : va_D A (w_Bc_ h_bc ad_bc tC rf1 bc12 ++ (w_Sg_ (ad_bc 100) ad_sg tC sg10 ++ (w_Tr_ (ad_bc 104) ad_tr tC tr ++ (w_Tr_ (ad_bc 105) ad_tu tC tu ++ (w_Ff_ (ad_bc 103) ad_ff tC ff ++ (w_Pl_ (ad_bc 101) ad_pl tC pl ++ (w_Lw_ (ad_bc 102) ad_lw tC lw ++ (w_Sh_ qB (fun _ => qC) tC nw_nT nw1 ++ TL)))))))) := by rw [← Option.some.inj hbc12]; exact hD
      refine lv_aload_n hx hb d_Bc_shape_85 rfl (lv_at hl 3 rfl) ?_
      refine va_get (D := (dC, dI)) (ci := 8) (v := .int (bc12.1 0)) (C := RX8) (T := TX8) (N := 12) hx hb hts in_X8 hown hK hP 0 rfl rfl 10 (by decide) (hts _ kF_8_69) (fun _ h9 => h9) rfl d_Bc_shape_86 ?_
      refine lv_iconst (v := 1) hx hb d_Bc_shape_89 (by decide) ?_
      refine lv_isub hx hb d_Bc_shape_90 ?_
      obtain rfl := Option.some.inj hf
      subst hQ
      subst hAe
      subst hrf1
      refine W.widen (k := 2) (n := 43) (by decide +kernel) (by decide +kernel) ?_
      exact W.iret (v := (bc12.1 0) - 1) hx hb hr (fun t ht hW => ⟨⟨_, _, rfl, ⟨rfl, Or.inr ⟨_, rfl, qB, qC, rfl⟩⟩, by rw [ht]; exact hP, hD⟩, hS.F ht⟩) hS.2.2 d_Bc_shape_91
def f_Bc_bar (nl : Nat) (nT : Nat → Nat) (LS : Nat → MS) (TS : Nat → MS) (FP : Nat → Bool) (FS : Nat → MS) (ns : Nat) (bc : MS) (sg : MS) (tr : MS) (tu : MS) (ff : MS) (pl : MS) (lw : MS) (p1 : Int32) (p2 : Int32) (p3 : Int32) : Option (Int32 × MS × MS × MS × MS × MS × MS × MS × Option MS) := (if p1 < 0 then some ((-1), bc, sg, tr, tu, ff, pl, lw, none) else (if (bc.1 0) ≤ p1 then some ((-1), bc, sg, tr, tu, ff, pl, lw, none) else (f_Bc_isDiameter p2).bind fun q3 => (if q3 = 0 then some ((-1), bc, sg, tr, tu, ff, pl, lw, none) else (if p3 < 1 then some ((-1), bc, sg, tr, tu, ff, pl, lw, none) else (if 5 < p3 then some ((-1), bc, sg, tr, tu, ff, pl, lw, none) else (if (bc.1 1) < 12 then if ix p1 10 then if p1.toNatClampNeg < ns then (some (sI (sI (sI S0 0 p1) 1 p2) 2 p3)).bind fun nw1 => if ix (bc.1 1) 12 then (some (sI bc 1 ((bc.1 1) + 1))).bind fun bc11 => (f_Pl_clear pl).bind fun q12 => some ((bc11.1 1) - 1, bc11, sg, tr, tu, ff, q12.2, lw, some (nw1)) else none else none else none else some ((-1), bc, sg, tr, tu, ff, pl, lw, none)))))))
def rm_Bc_bar : Room := { frames := 3, cells := 2, slots := 15, locals := 100 }
set_option maxHeartbeats 4000000 in
set_option maxRecDepth 100000 in
theorem m_Bc_bar (l : Launch) (dC : Nat → ClassId) (dI : Nat → Nat → Nat) (tC : Nat → ClassId) (TL : va_W) (nl : Nat) (hL : Nat → Nat) (adL aT : Nat → Nat → Nat) (nT : Nat → Nat) (LS TS : Nat → MS) (FP : Nat → Bool) (hF : Nat → Nat) (adF : Nat → Nat → Nat) (FS : Nat → MS) (rf : Nat → Nat → Option Nat) (ns : Nat) (gS : Nat → Nat) (h_bc : Nat) (ad_bc : Nat → Nat) (bc : MS) (ad_sg : Nat → Nat) (sg : MS) (ad_tr : Nat → Nat) (tr : MS) (ad_tu : Nat → Nat) (tu : MS) (ad_ff : Nat → Nat) (ff : MS) (ad_pl : Nat → Nat) (pl : MS) (ad_lw : Nat → Nat) (lw : MS) (p1 : Int32) (p2 : Int32) (p3 : Int32) (R : Int32 × MS × MS × MS × MS × MS × MS × MS × Option MS) (hFM : FM tC TL nl hL adL aT nT LS TS FP hF adF FS rf) (hSh : ∀ j, j < ns → rf 0 j = some (gS j)) (hf : f_Bc_bar nl nT LS TS FP FS ns bc sg tr tu ff pl lw p1 p2 p3 = some R) (sz : Nat) : Met l y_Bc_bar w_Bc_bar rm_Bc_bar (wrP (dC, dI) tC (w_Bc_ h_bc ad_bc tC rf bc ++ (w_Sg_ (ad_bc 100) ad_sg tC sg ++ (w_Tr_ (ad_bc 104) ad_tr tC tr ++ (w_Tr_ (ad_bc 105) ad_tu tC tu ++ (w_Ff_ (ad_bc 103) ad_ff tC ff ++ (w_Pl_ (ad_bc 101) ad_pl tC pl ++ (w_Lw_ (ad_bc 102) ad_lw tC lw ++ TL))))))) sz [.ref h_bc, .int p1, .int p2, .int p3]) (wrQ (dC, dI) (w_Bc_ h_bc ad_bc tC rf bc ++ (w_Sg_ (ad_bc 100) ad_sg tC sg ++ (w_Tr_ (ad_bc 104) ad_tr tC tr ++ (w_Tr_ (ad_bc 105) ad_tu tC tu ++ (w_Ff_ (ad_bc 103) ad_ff tC ff ++ (w_Pl_ (ad_bc 101) ad_pl tC pl ++ (w_Lw_ (ad_bc 102) ad_lw tC lw ++ TL))))))) sz (fun r w => r = some (.int R.1) ∧ ((R.2.2.2.2.2.2.2.2 = none ∧ w = (w_Bc_ h_bc ad_bc tC rf R.2.1 ++ (w_Sg_ (ad_bc 100) ad_sg tC R.2.2.1 ++ (w_Tr_ (ad_bc 104) ad_tr tC R.2.2.2.1 ++ (w_Tr_ (ad_bc 105) ad_tu tC R.2.2.2.2.1 ++ (w_Ff_ (ad_bc 103) ad_ff tC R.2.2.2.2.2.1 ++ (w_Pl_ (ad_bc 101) ad_pl tC R.2.2.2.2.2.2.1 ++ (w_Lw_ (ad_bc 102) ad_lw tC R.2.2.2.2.2.2.2.1 ++ TL)))))))) ∨ (∃ x, R.2.2.2.2.2.2.2.2 = some x ∧ ∃ (q : Nat) (a : Nat), w = (w_Bc_ h_bc ad_bc tC (va_up rf 1 (va_up (rf 1) (bc.1 1).toNatClampNeg (some q))) R.2.1 ++ (w_Sg_ (ad_bc 100) ad_sg tC R.2.2.1 ++ (w_Tr_ (ad_bc 104) ad_tr tC R.2.2.2.1 ++ (w_Tr_ (ad_bc 105) ad_tu tC R.2.2.2.2.1 ++ (w_Ff_ (ad_bc 103) ad_ff tC R.2.2.2.2.2.1 ++ (w_Pl_ (ad_bc 101) ad_pl tC R.2.2.2.2.2.2.1 ++ (w_Lw_ (ad_bc 102) ad_lw tC R.2.2.2.2.2.2.2.1 ++ ((w_Ln_ q (fun j => if j = 0 then a else gS p1.toNatClampNeg) tC x ++ TL))))))))))))) 2 15 (va_A (w_Bc_ h_bc ad_bc tC rf bc ++ (w_Sg_ (ad_bc 100) ad_sg tC sg ++ (w_Tr_ (ad_bc 104) ad_tr tC tr ++ (w_Tr_ (ad_bc 105) ad_tu tC tu ++ (w_Ff_ (ad_bc 103) ad_ff tC ff ++ (w_Pl_ (ad_bc 101) ad_pl tC pl ++ (w_Lw_ (ad_bc 102) ad_lw tC lw ++ TL))))))) sz) := by
  refine Met.ofW (cc := c_Bc_bar) (maxL := 4) (ret := (some (.int))) (by decide) rfl ?_
  intro p e s m args below meth c s₁ B hml hv
  obtain ⟨hav, hsz, hP, hK, hD0⟩ := hv
  have hx := B.exec
  have hb := B.bytes
  have hr := B.returns
  have hts : ∀ w ∈ gw, w.before args s = true := fun w h => atoms_spec (ws := w_Bc_bar) B.pre w (List.mem_cons_of_mem _ h)
  have hown : s.vm.findClass RX8 = some m.cls := findClass_of_methodNamed B.named
  have hlocks := B.notSynchronized
  subst hsz
  have hD := hD0.self (sz := s.heap.size)
  obtain ⟨A, hAe⟩ : ∃ z, z = va_A (w_Bc_ h_bc ad_bc tC rf bc ++ (w_Sg_ (ad_bc 100) ad_sg tC sg ++ (w_Tr_ (ad_bc 104) ad_tr tC tr ++ (w_Tr_ (ad_bc 105) ad_tu tC tu ++ (w_Ff_ (ad_bc 103) ad_ff tC ff ++ (w_Pl_ (ad_bc 101) ad_pl tC pl ++ (w_Lw_ (ad_bc 102) ad_lw tC lw ++ TL))))))) s.heap.size := ⟨_, rfl⟩
  rw [← hAe] at hD
  have hA : ∀ q : Nat, s.heap.size ≤ q → A q := fun q h => by rw [hAe]; exact Or.inr h
  have hS : va_S A s.heap s.heap [] := va_S.rf
  refine q_w (R := rm_Bc_bar) (fun Q hQ => ?_)
  refine en_w (av := [.ref h_bc, .int p1, .int p2, .int p3]) hav (Nat.le_of_ble_eq_true rfl) (fun ls hl => ?_)
  have hl : lv_has ls 4 [(0, .ref h_bc), (1, .int p1), (2, .int p2), (3, .int p3)] := hl
  unfold f_Bc_bar at hf
  refine lv_iload_n hx hb d_Bc_bar_0 rfl (lv_at hl 1 rfl) ?_
  refine lv_if_lt (tgt := 19) hx hb d_Bc_bar_1 (by decide) (fun c1 => ?_) (fun c1 => ?_)
  · have hf := op_t hf c1
    refine lv_iconst (v := (-1)) hx hb d_Bc_bar_19 (by decide) ?_
    obtain rfl := Option.some.inj hf
    subst hQ
    subst hAe
    refine W.widen (k := 2) (n := 15) (by decide +kernel) (by decide +kernel) ?_
    exact W.iret (v := (-1)) hx hb hr (fun t ht hW => ⟨⟨_, _, rfl, ⟨rfl, Or.inl ⟨rfl, rfl⟩⟩, by rw [ht]; exact hP, hD⟩, hS.F ht⟩) hS.2.2 d_Bc_bar_20
  · have hf := op_e hf c1
    refine lv_iload_n hx hb d_Bc_bar_4 rfl (lv_at hl 1 rfl) ?_
    refine lv_aload_n hx hb d_Bc_bar_5 rfl (lv_at hl 0 rfl) ?_
    refine va_get (D := (dC, dI)) (ci := 8) (v := .int (bc.1 0)) (C := RX8) (T := TX8) (N := 12) hx hb hts in_X8 hown hK hP 0 rfl rfl 10 (by decide) (hts _ kF_8_69) (fun _ h9 => h9) rfl d_Bc_bar_6 ?_
    refine lv_icmp_ge (tgt := 19) hx hb d_Bc_bar_9 (by decide) (fun c2 => ?_) (fun c2 => ?_)
    · have hf := op_t hf c2
      refine lv_iconst (v := (-1)) hx hb d_Bc_bar_19 (by decide) ?_
      obtain rfl := Option.some.inj hf
      subst hQ
      subst hAe
      refine W.widen (k := 2) (n := 15) (by decide +kernel) (by decide +kernel) ?_
      exact W.iret (v := (-1)) hx hb hr (fun t ht hW => ⟨⟨_, _, rfl, ⟨rfl, Or.inl ⟨rfl, rfl⟩⟩, by rw [ht]; exact hP, hD⟩, hS.F ht⟩) hS.2.2 d_Bc_bar_20
    · have hf := op_e hf c2
      refine lv_iload_n hx hb d_Bc_bar_12 rfl (lv_at hl 2 rfl) ?_
      obtain ⟨q3, hq3, hf⟩ := op_b hf
      refine ro_go rfl (va_runS (As := [.int p2]) (rest := []) ⟨hx, hb, hml, hown, hts⟩ (m_Bc_isDiameter l dC dI tC p2 q3 _  hq3) (cwS 1 hts (gd_S kM_8_91 kS_Bc_isDiameter kZ_8 kC_Bc_isDiameter) rfl rfl rfl (by decide +kernel) ⟨(Nat.le_of_ble_eq_true rfl), (Nat.le_of_ble_eq_true rfl)⟩) ⟨ro_blind, ro_pre hK⟩ rfl rfl hl.1 rfl (lv_room (Nat.le_of_ble_eq_true rfl)) d_Bc_bar_13 ⟨(Nat.le_of_ble_eq_true rfl), (Nat.le_of_ble_eq_true rfl)⟩) ?_
      refine W.eq (g2 := F0 m 16 ls [.int q3]) rfl ?_
      refine lv_if_ne (tgt := 21) hx hb d_Bc_bar_16 (by decide) (fun c4 => ?_) (fun c4 => ?_)
      · have hf := op_e hf c4
        refine lv_iload_n hx hb d_Bc_bar_21 rfl (lv_at hl 3 rfl) ?_
        refine lv_iconst (v := 1) hx hb d_Bc_bar_22 (by decide) ?_
        refine lv_icmp_lt (tgt := 40) hx hb d_Bc_bar_23 (by decide) (fun c5 => ?_) (fun c5 => ?_)
        · have hf := op_t hf c5
          refine lv_iconst (v := (-1)) hx hb d_Bc_bar_40 (by decide) ?_
          obtain rfl := Option.some.inj hf
          subst hQ
          subst hAe
          refine W.widen (k := 2) (n := 15) (by decide +kernel) (by decide +kernel) ?_
          exact W.iret (v := (-1)) hx hb hr (fun t ht hW => ⟨⟨_, _, rfl, ⟨rfl, Or.inl ⟨rfl, rfl⟩⟩, by rw [ht]; exact hP, hD⟩, hS.F ht⟩) hS.2.2 d_Bc_bar_41
        · have hf := op_e hf c5
          refine lv_iload_n hx hb d_Bc_bar_26 rfl (lv_at hl 3 rfl) ?_
          refine lv_iconst (v := 5) hx hb d_Bc_bar_27 (by decide) ?_
          refine lv_icmp_gt (tgt := 40) hx hb d_Bc_bar_28 (by decide) (fun c6 => ?_) (fun c6 => ?_)
          · have hf := op_t hf c6
            refine lv_iconst (v := (-1)) hx hb d_Bc_bar_40 (by decide) ?_
            obtain rfl := Option.some.inj hf
            subst hQ
            subst hAe
            refine W.widen (k := 2) (n := 15) (by decide +kernel) (by decide +kernel) ?_
            exact W.iret (v := (-1)) hx hb hr (fun t ht hW => ⟨⟨_, _, rfl, ⟨rfl, Or.inl ⟨rfl, rfl⟩⟩, by rw [ht]; exact hP, hD⟩, hS.F ht⟩) hS.2.2 d_Bc_bar_41
          · have hf := op_e hf c6
            refine lv_aload_n hx hb d_Bc_bar_31 rfl (lv_at hl 0 rfl) ?_
            refine va_get (D := (dC, dI)) (ci := 8) (v := .int (bc.1 1)) (C := RX8) (T := TX8) (N := 12) hx hb hts in_X8 hown hK hP 0 rfl rfl 11 (by decide) (hts _ kF_8_73) (fun _ h9 => h9) rfl d_Bc_bar_32 ?_
            refine lv_bipush (v := 12) hx hb d_Bc_bar_35 (by decide) ?_
            refine lv_icmp_lt (tgt := 42) hx hb d_Bc_bar_37 (by decide) (fun c7 => ?_) (fun c7 => ?_)
            · have hf := op_t hf c7
              refine lv_aload_n hx hb d_Bc_bar_42 rfl (lv_at hl 0 rfl) ?_
              refine va_get (D := (dC, dI)) (ci := 8) (v := .ref (ad_bc 1)) (C := RX8) (T := TX8) (N := 12) hx hb hts in_X8 hown hK hP 0 rfl rfl 2 (by decide) (hts _ kF_8_24) (fun _ h9 => h9) rfl d_Bc_bar_43 ?_
              refine lv_aload_n hx hb d_Bc_bar_46 rfl (lv_at hl 0 rfl) ?_
              refine va_get (D := (dC, dI)) (ci := 8) (v := .int (bc.1 1)) (C := RX8) (T := TX8) (N := 12) hx hb hts in_X8 hown hK hP 0 rfl rfl 11 (by decide) (hts _ kF_8_73) (fun _ h9 => h9) rfl d_Bc_bar_47 ?_
              refine va_new (ci := 2) (fs := [.int 0, .null, .int 0, .int 0, .null, .int 0, .int 0, .int 0, .int 0]) (C := RX2) (T := TX2) (N := 9) hx hb hts in_X2 tyX2 tyX2_ok hown (hts _ kL_8_22) (hts _ kN_2) (hts _ kZ_2) hK hP hD hS hA rfl (fun j hj => (by decide +kernel : ∀ j, j < 9 → defaultValue (tyX2 j) = vp_V [.int 0, .null, .int 0, .int 0, .null, .int 0, .int 0, .int 0, .int 0] j) j hj) (by decide +kernel) (by decide +kernel) d_Bc_bar_50 (fun qB H hP hD hS => ?_)
              refine lv_dup hx hb d_Bc_bar_53 rfl ?_
              refine lv_iload_n hx hb d_Bc_bar_54 rfl (lv_at hl 1 rfl) ?_
              refine lv_aload_n hx hb d_Bc_bar_55 rfl (lv_at hl 0 rfl) ?_
              refine va_get (D := (dC, dI)) (ci := 8) (v := .ref (ad_bc 0)) (C := RX8) (T := TX8) (N := 12) hx hb hts in_X8 hown hK hP 0 rfl rfl 1 (by decide) (hts _ kF_8_18) (fun _ h9 => h9) rfl d_Bc_bar_56 ?_
              refine lv_iload_n hx hb d_Bc_bar_59 rfl (lv_at hl 1 rfl) ?_
              obtain ⟨hi8, hf⟩ := op_if hf
              refine va_aldq (f := rf 0) hx hb hK hP 1 4 rfl rfl (ix_in hi8) d_Bc_bar_60 ?_
              obtain ⟨hg9, hf⟩ := op_if hf
              refine rw_s (a := gS p1.toNatClampNeg) (hSh _ hg9) ?_
              refine lv_iload_n hx hb d_Bc_bar_61 rfl (lv_at hl 2 rfl) ?_
              refine lv_iload_n hx hb d_Bc_bar_62 rfl (lv_at hl 3 rfl) ?_
              have hPx : va_P (dC, dI) vwCl ((w_Bc_ h_bc ad_bc tC rf bc ++ (w_Sg_ (ad_bc 100) ad_sg tC sg ++ (w_Tr_ (ad_bc 104) ad_tr tC tr ++ (w_Tr_ (ad_bc 105) ad_tu tC tu ++ (w_Ff_ (ad_bc 103) ad_ff tC ff ++ (w_Pl_ (ad_bc 101) ad_pl tC pl ++ (w_Lw_ (ad_bc 102) ad_lw tC lw ++ TL))))))) ++ [(qB, .inr (2, [.int 0, .null, .int 0, .int 0, .null, .int 0, .int 0, .int 0, .int 0]))]) H := hP
              have hDx : va_D A ((w_Bc_ h_bc ad_bc tC rf bc ++ (w_Sg_ (ad_bc 100) ad_sg tC sg ++ (w_Tr_ (ad_bc 104) ad_tr tC tr ++ (w_Tr_ (ad_bc 105) ad_tu tC tu ++ (w_Ff_ (ad_bc 103) ad_ff tC ff ++ (w_Pl_ (ad_bc 101) ad_pl tC pl ++ (w_Lw_ (ad_bc 102) ad_lw tC lw ++ TL))))))) ++ [(qB, .inr (2, [.int 0, .null, .int 0, .int 0, .null, .int 0, .int 0, .int 0, .int 0]))]) := hD
              have hPc := va_P_in hPx (w := [(qB, .inr (2, [.int 0, .null, .int 0, .int 0, .null, .int 0, .int 0, .int 0, .int 0]))]) (fun q h => List.mem_append_right _ h)
              have hDc : va_D A [(qB, .inr (2, [.int 0, .null, .int 0, .int 0, .null, .int 0, .int 0, .int 0, .int 0]))] := D_r hDx
              have hFc : ∀ q, va_A [(qB, .inr (2, [.int 0, .null, .int 0, .int 0, .null, .int 0, .int 0, .int 0, .int 0]))] H.size q → A q := va_freeAll hDc hS hA
              refine wr_go (va_runI (As := [.int p1, .ref (gS p1.toNatClampNeg), .int p2, .int p3]) (rest := [.ref qB, .int (bc.1 1), .ref (ad_bc 1)]) ⟨hx, hb, hml, hown, hts⟩ (m_Ln_init l dC dI tC qB p1 (gS p1.toNatClampNeg) p2 p3 H.size) (cwI 4 hts (gd_O kC_Ln_init) rfl rfl rfl (hts _ kZ_2) (hts _ kM_8_99) (hts _ kI_Ln_init) rfl (by decide +kernel) ⟨(Nat.le_of_ble_eq_true rfl), (Nat.le_of_ble_eq_true rfl)⟩) ⟨wr_blind, wr_pre hK hPc hDc⟩ rfl rfl hl.1 rfl (lv_room (Nat.le_of_ble_eq_true rfl)) d_Bc_bar_63 ⟨(by decide +kernel), (by decide +kernel)⟩) hS hFc (fun r w1 H1 locs hw hP1 hD1 hk1 hS => ?_)
              obtain ⟨rfl, qC, rfl⟩ := hw
              obtain ⟨hP, hD⟩ := jn_A hPx hDx hk1 hFc hP1 hD1
              clear hP1 hD1 hk1 hPc hDc hFc hPx hDx
              have hP := pm_P (pm_rot (X := (w_Bc_ h_bc ad_bc tC rf bc ++ (w_Sg_ (ad_bc 100) ad_sg tC sg ++ (w_Tr_ (ad_bc 104) ad_tr tC tr ++ (w_Tr_ (ad_bc 105) ad_tu tC tu ++ (w_Ff_ (ad_bc 103) ad_ff tC ff ++ (w_Pl_ (ad_bc 101) ad_pl tC pl ++ w_Lw_ (ad_bc 102) ad_lw tC lw))))))) (N := w_Ln_ qB (fun j => if j = 0 then qC else gS p1.toNatClampNeg) tC (sI (sI (sI S0 0 p1) 1 p2) 2 p3)) (TL := TL)) (cv_P hP (by simp only [List.append_assoc]))
              have hD := pm_D (pm_rot (X := (w_Bc_ h_bc ad_bc tC rf bc ++ (w_Sg_ (ad_bc 100) ad_sg tC sg ++ (w_Tr_ (ad_bc 104) ad_tr tC tr ++ (w_Tr_ (ad_bc 105) ad_tu tC tu ++ (w_Ff_ (ad_bc 103) ad_ff tC ff ++ (w_Pl_ (ad_bc 101) ad_pl tC pl ++ w_Lw_ (ad_bc 102) ad_lw tC lw))))))) (N := w_Ln_ qB (fun j => if j = 0 then qC else gS p1.toNatClampNeg) tC (sI (sI (sI S0 0 p1) 1 p2) 2 p3)) (TL := TL)) (cv_D hD (by simp only [List.append_assoc]))
              obtain ⟨nw1, hnw1, hf⟩ := op_b hf
              rw [Option.some.inj hnw1] at hP hD
              have hP := cv_P (ws' := (w_Bc_ h_bc ad_bc tC rf bc ++ (w_Sg_ (ad_bc 100) ad_sg tC sg ++ (w_Tr_ (ad_bc 104) ad_tr tC tr ++ (w_Tr_ (ad_bc 105) ad_tu tC tu ++ (w_Ff_ (ad_bc 103) ad_ff tC ff ++ (w_Pl_ (ad_bc 101) ad_pl tC pl ++ (w_Lw_ (ad_bc 102) ad_lw tC lw ++ (w_Ln_ qB (fun j => if j = 0 then qC else gS p1.toNatClampNeg) tC nw1 ++ TL))))))))) hP (by simp only [List.append_assoc])
              have hD := cv_D (ws' := (w_Bc_ h_bc ad_bc tC rf bc ++ (w_Sg_ (ad_bc 100) ad_sg tC sg ++ (w_Tr_ (ad_bc 104) ad_tr tC tr ++ (w_Tr_ (ad_bc 105) ad_tu tC tu ++ (w_Ff_ (ad_bc 103) ad_ff tC ff ++ (w_Pl_ (ad_bc 101) ad_pl tC pl ++ (w_Lw_ (ad_bc 102) ad_lw tC lw ++ (w_Ln_ qB (fun j => if j = 0 then qC else gS p1.toNatClampNeg) tC nw1 ++ TL))))))))) hD (by simp only [List.append_assoc])
              refine W.eq (g2 := F0 m 66 ls [.ref qB, .int (bc.1 1), .ref (ad_bc 1)]) rfl ?_
              obtain ⟨hi10, hf⟩ := op_if hf
              refine va_astq (f := rf 1) hx hb hK hP hD hS 2 5 38 2 rfl rfl rfl rfl (ix_in hi10) d_Bc_bar_66 (fun H locs hP hD hS => ?_)
              rw [sl_Bc_2, wu_Bc_r1] at hP hD
              obtain ⟨rf1, hrf1⟩ : ∃ z, z = va_up rf 1 (va_up (rf 1) (bc.1 1).toNatClampNeg (some qB)) := ⟨_, rfl⟩
              rw [← hrf1] at hP hD
              refine lv_aload_n hx hb d_Bc_bar_67 rfl (lv_at hl 0 rfl) ?_
              refine lv_dup hx hb d_Bc_bar_68 rfl ?_
              refine va_get (D := (dC, dI)) (ci := 8) (v := .int (bc.1 1)) (C := RX8) (T := TX8) (N := 12) hx hb hts in_X8 hown hK hP 0 rfl rfl 11 (by decide) (hts _ kF_8_73) (fun _ h9 => h9) rfl d_Bc_bar_69 ?_
              refine lv_iconst (v := 1) hx hb d_Bc_bar_72 (by decide) ?_
              refine lv_iadd hx hb d_Bc_bar_73 ?_
              refine va_put (D := (dC, dI)) (ci := 8) (v := .int ((bc.1 1) + 1)) (ty := .int) (C := RX8) (T := TX8) (N := 12) hx hb hts in_X8 tyX8 tyX8_ok nmX8 hown hK hP hD hS 0 (fs := [.ref (ad_bc 100), .ref (ad_bc 0), .ref (ad_bc 1), .ref (ad_bc 2), .ref (ad_bc 3), .ref (ad_bc 101), .ref (ad_bc 102), .ref (ad_bc 103), .ref (ad_bc 104), .ref (ad_bc 105), .int (bc.1 0), .int (bc.1 1)]) rfl rfl 11 (by decide) (hts _ kF_8_73) (fun _ h9 => h9) rfl (by decide +kernel) (rfl) (rfl) (Nat.le_of_ble_eq_true rfl) d_Bc_bar_74 (fun H locs hP hD hS => ?_)
              rw [sl_Bc_0, wu_Bc_s1] at hP hD
              obtain ⟨bc11, hbc11, hf⟩ := op_b hf
              have hP : va_P (dC, dI) vwCl (w_Bc_ h_bc ad_bc tC rf1 bc11 ++ (w_Sg_ (ad_bc 100) ad_sg tC sg ++ (w_Tr_ (ad_bc 104) ad_tr tC tr ++ (w_Tr_ (ad_bc 105) ad_tu tC tu ++ (w_Ff_ (ad_bc 103) ad_ff tC ff ++ (w_Pl_ (ad_bc 101) ad_pl tC pl ++ (w_Lw_ (ad_bc 102) ad_lw tC lw ++ (w_Ln_ qB (fun j => if j = 0 then qC else gS p1.toNatClampNeg) tC nw1 ++ TL)))))))) H := by rw [← Option.some.inj hbc11]; exact hP
              have hD : va_D A (w_Bc_ h_bc ad_bc tC rf1 bc11 ++ (w_Sg_ (ad_bc 100) ad_sg tC sg ++ (w_Tr_ (ad_bc 104) ad_tr tC tr ++ (w_Tr_ (ad_bc 105) ad_tu tC tu ++ (w_Ff_ (ad_bc 103) ad_ff tC ff ++ (w_Pl_ (ad_bc 101) ad_pl tC pl ++ (w_Lw_ (ad_bc 102) ad_lw tC lw ++ (w_Ln_ qB (fun j => if j = 0 then qC else gS p1.toNatClampNeg) tC nw1 ++ TL)))))))) := by rw [← Option.some.inj hbc11]; exact hD
              refine lv_aload_n hx hb d_Bc_bar_77 rfl (lv_at hl 0 rfl) ?_
              refine va_get (D := (dC, dI)) (ci := 8) (v := .ref (ad_bc 101)) (C := RX8) (T := TX8) (N := 12) hx hb hts in_X8 hown hK hP 0 rfl rfl 5 (by decide) (hts _ kF_8_41) (fun _ h9 => h9) rfl d_Bc_bar_78 ?_
              obtain ⟨q12, hq12, hf⟩ := op_b hf
              have hPx := cv_P (ws' := (w_Bc_ h_bc ad_bc tC rf1 bc11 ++ (w_Sg_ (ad_bc 100) ad_sg tC sg ++ (w_Tr_ (ad_bc 104) ad_tr tC tr ++ (w_Tr_ (ad_bc 105) ad_tu tC tu ++ w_Ff_ (ad_bc 103) ad_ff tC ff)))) ++ ((w_Pl_ (ad_bc 101) ad_pl tC pl) ++ (w_Lw_ (ad_bc 102) ad_lw tC lw ++ (w_Ln_ qB (fun j => if j = 0 then qC else gS p1.toNatClampNeg) tC nw1 ++ TL)))) hP (by simp only [List.append_assoc, List.nil_append])
              have hDx := cv_D (ws' := (w_Bc_ h_bc ad_bc tC rf1 bc11 ++ (w_Sg_ (ad_bc 100) ad_sg tC sg ++ (w_Tr_ (ad_bc 104) ad_tr tC tr ++ (w_Tr_ (ad_bc 105) ad_tu tC tu ++ w_Ff_ (ad_bc 103) ad_ff tC ff)))) ++ ((w_Pl_ (ad_bc 101) ad_pl tC pl) ++ (w_Lw_ (ad_bc 102) ad_lw tC lw ++ (w_Ln_ qB (fun j => if j = 0 then qC else gS p1.toNatClampNeg) tC nw1 ++ TL)))) hD (by simp only [List.append_assoc, List.nil_append])
              obtain ⟨hPc, hDc, hFc⟩ := bk_cut0 hPx hDx hS hA
              refine wr_go (va_runV (As := []) (rest := []) ⟨hx, hb, hml, hown, hts⟩ (m_Pl_clear l dC dI tC (ad_bc 101) ad_pl pl q12 hq12 _) (cwV 0 hts (gd_V kM_8_96 kI_Pl_clear kV_Pl_clear kZ_3 kC_Pl_clear) rfl rfl rfl (by decide +kernel) ⟨(Nat.le_of_ble_eq_true rfl), (Nat.le_of_ble_eq_true rfl)⟩) ⟨wr_blind, va_recv hK hP (ci := 3) (q0 := 21) rfl rfl, wr_pre hK hPc hDc⟩ rfl rfl hl.1 rfl (lv_room (Nat.le_of_ble_eq_true rfl)) d_Bc_bar_81 ⟨(Nat.le_of_ble_eq_true rfl), (Nat.le_of_ble_eq_true rfl)⟩) hS hFc (fun r w1 H1 locs hw hP1 hD1 hk1 hS => ?_)
              obtain ⟨rfl, rfl⟩ := hw
              obtain ⟨hP, hD⟩ := bk_join0 (B1 := (w_Pl_ (ad_bc 101) ad_pl tC q12.2)) hPx hDx hk1 hP1 rfl
              clear hP1 hD1 hk1 hPc hDc hFc hPx hDx
              have hP := cv_P (ws' := (w_Bc_ h_bc ad_bc tC rf1 bc11 ++ (w_Sg_ (ad_bc 100) ad_sg tC sg ++ (w_Tr_ (ad_bc 104) ad_tr tC tr ++ (w_Tr_ (ad_bc 105) ad_tu tC tu ++ (w_Ff_ (ad_bc 103) ad_ff tC ff ++ (w_Pl_ (ad_bc 101) ad_pl tC q12.2 ++ (w_Lw_ (ad_bc 102) ad_lw tC lw ++ (w_Ln_ qB (fun j => if j = 0 then qC else gS p1.toNatClampNeg) tC nw1 ++ TL))))))))) hP (by simp only [List.append_assoc, List.nil_append])
              have hD := cv_D (ws' := (w_Bc_ h_bc ad_bc tC rf1 bc11 ++ (w_Sg_ (ad_bc 100) ad_sg tC sg ++ (w_Tr_ (ad_bc 104) ad_tr tC tr ++ (w_Tr_ (ad_bc 105) ad_tu tC tu ++ (w_Ff_ (ad_bc 103) ad_ff tC ff ++ (w_Pl_ (ad_bc 101) ad_pl tC q12.2 ++ (w_Lw_ (ad_bc 102) ad_lw tC lw ++ (w_Ln_ qB (fun j => if j = 0 then qC else gS p1.toNatClampNeg) tC nw1 ++ TL))))))))) hD (by simp only [List.append_assoc, List.nil_append])
              refine W.eq (g2 := F0 m 84 ls []) rfl ?_
              refine lv_aload_n hx hb d_Bc_bar_84 rfl (lv_at hl 0 rfl) ?_
              refine va_get (D := (dC, dI)) (ci := 8) (v := .int (bc11.1 1)) (C := RX8) (T := TX8) (N := 12) hx hb hts in_X8 hown hK hP 0 rfl rfl 11 (by decide) (hts _ kF_8_73) (fun _ h9 => h9) rfl d_Bc_bar_85 ?_
              refine lv_iconst (v := 1) hx hb d_Bc_bar_88 (by decide) ?_
              refine lv_isub hx hb d_Bc_bar_89 ?_
              obtain rfl := Option.some.inj hf
              subst hQ
              subst hAe
              subst hrf1
              refine W.widen (k := 2) (n := 15) (by decide +kernel) (by decide +kernel) ?_
              exact W.iret (v := (bc11.1 1) - 1) hx hb hr (fun t ht hW => ⟨⟨_, _, rfl, ⟨rfl, Or.inr ⟨_, rfl, qB, qC, rfl⟩⟩, by rw [ht]; exact hP, hD⟩, hS.F ht⟩) hS.2.2 d_Bc_bar_90
            · have hf := op_e hf c7
              refine lv_iconst (v := (-1)) hx hb d_Bc_bar_40 (by decide) ?_
              obtain rfl := Option.some.inj hf
              subst hQ
              subst hAe
              refine W.widen (k := 2) (n := 15) (by decide +kernel) (by decide +kernel) ?_
              exact W.iret (v := (-1)) hx hb hr (fun t ht hW => ⟨⟨_, _, rfl, ⟨rfl, Or.inl ⟨rfl, rfl⟩⟩, by rw [ht]; exact hP, hD⟩, hS.F ht⟩) hS.2.2 d_Bc_bar_41
      · have hf := op_t hf c4
        refine lv_iconst (v := (-1)) hx hb d_Bc_bar_19 (by decide) ?_
        obtain rfl := Option.some.inj hf
        subst hQ
        subst hAe
        refine W.widen (k := 2) (n := 15) (by decide +kernel) (by decide +kernel) ?_
        exact W.iret (v := (-1)) hx hb hr (fun t ht hW => ⟨⟨_, _, rfl, ⟨rfl, Or.inl ⟨rfl, rfl⟩⟩, by rw [ht]; exact hP, hD⟩, hS.F ht⟩) hS.2.2 d_Bc_bar_20
def f_Bc_stock_n (nl : Nat) (nT : Nat → Nat) (LS : Nat → MS) (TS : Nat → MS) (FP : Nat → Bool) (FS : Nat → MS) (bc : MS) (sg : MS) (tr : MS) (tu : MS) (ff : MS) (pl : MS) (lw : MS) (p1 : Int32) (p2 : Int64) (p3 : Int32) : Option (Int32 × MS × MS × MS × MS × MS × MS × MS × Option MS) := (f_Bc_isDiameter p1).bind fun q1 => (if q1 = 0 then some (0, bc, sg, tr, tu, ff, pl, lw, none) else (if p2 < 1 then some (0, bc, sg, tr, tu, ff, pl, lw, none) else (if p2 ≤ 30000 then (if p3 < 0 then some (0, bc, sg, tr, tu, ff, pl, lw, none) else (if p3 ≤ 20 then if ix (p1 - 4) 37 then (some (S0)).bind fun nw1 => if ix (p1 - 4) 37 then (f_Sf_add nw1 p2.toInt32 p3).bind fun q9 => (if q9.1 = 0 then some (0, bc, sg, tr, tu, ff, pl, lw, some (q9.2)) else (f_Pl_clear pl).bind fun q11 => some (1, bc, sg, tr, tu, ff, q11.2, lw, some (q9.2))) else none else none else some (0, bc, sg, tr, tu, ff, pl, lw, none))) else some (0, bc, sg, tr, tu, ff, pl, lw, none))))
def rm_Bc_stock_n : Room := { frames := 3, cells := 3, slots := 9, locals := 100 }
set_option maxHeartbeats 4000000 in
set_option maxRecDepth 100000 in
theorem m_Bc_stock_n (l : Launch) (dC : Nat → ClassId) (dI : Nat → Nat → Nat) (tC : Nat → ClassId) (TL : va_W) (nl : Nat) (hL : Nat → Nat) (adL aT : Nat → Nat → Nat) (nT : Nat → Nat) (LS TS : Nat → MS) (FP : Nat → Bool) (hF : Nat → Nat) (adF : Nat → Nat → Nat) (FS : Nat → MS) (rf : Nat → Nat → Option Nat) (h_bc : Nat) (ad_bc : Nat → Nat) (bc : MS) (ad_sg : Nat → Nat) (sg : MS) (ad_tr : Nat → Nat) (tr : MS) (ad_tu : Nat → Nat) (tu : MS) (ad_ff : Nat → Nat) (ff : MS) (ad_pl : Nat → Nat) (pl : MS) (ad_lw : Nat → Nat) (lw : MS) (p1 : Int32) (p2 : Int64) (p3 : Int32) (R : Int32 × MS × MS × MS × MS × MS × MS × MS × Option MS) (hFM : FM tC TL nl hL adL aT nT LS TS FP hF adF FS rf) (hq0 : FP ((p1 - 4).toNatClampNeg) = false) (hf : f_Bc_stock_n nl nT LS TS FP FS bc sg tr tu ff pl lw p1 p2 p3 = some R) (sz : Nat) : Met l y_Bc_stock w_Bc_stock rm_Bc_stock_n (wrN (dC, dI) tC (w_Bc_ h_bc ad_bc tC rf bc ++ (w_Sg_ (ad_bc 100) ad_sg tC sg ++ (w_Tr_ (ad_bc 104) ad_tr tC tr ++ (w_Tr_ (ad_bc 105) ad_tu tC tu ++ (w_Ff_ (ad_bc 103) ad_ff tC ff ++ (w_Pl_ (ad_bc 101) ad_pl tC pl ++ (w_Lw_ (ad_bc 102) ad_lw tC lw ++ TL))))))) sz [.ref h_bc, .int p1, .long p2, .int p3]) (wrQ (dC, dI) (w_Bc_ h_bc ad_bc tC rf bc ++ (w_Sg_ (ad_bc 100) ad_sg tC sg ++ (w_Tr_ (ad_bc 104) ad_tr tC tr ++ (w_Tr_ (ad_bc 105) ad_tu tC tu ++ (w_Ff_ (ad_bc 103) ad_ff tC ff ++ (w_Pl_ (ad_bc 101) ad_pl tC pl ++ (w_Lw_ (ad_bc 102) ad_lw tC lw ++ TL))))))) sz (fun r w => r = some (.int R.1) ∧ ((R.2.2.2.2.2.2.2.2 = none ∧ w = (w_Bc_ h_bc ad_bc tC rf R.2.1 ++ (w_Sg_ (ad_bc 100) ad_sg tC R.2.2.1 ++ (w_Tr_ (ad_bc 104) ad_tr tC R.2.2.2.1 ++ (w_Tr_ (ad_bc 105) ad_tu tC R.2.2.2.2.1 ++ (w_Ff_ (ad_bc 103) ad_ff tC R.2.2.2.2.2.1 ++ (w_Pl_ (ad_bc 101) ad_pl tC R.2.2.2.2.2.2.1 ++ (w_Lw_ (ad_bc 102) ad_lw tC R.2.2.2.2.2.2.2.1 ++ TL)))))))) ∨ (∃ x, R.2.2.2.2.2.2.2.2 = some x ∧ ∃ (q : Nat) (a : Nat → Nat), w = (w_Bc_ h_bc ad_bc tC (va_up rf 2 (va_up (rf 2) (p1 - 4).toNatClampNeg (some q))) R.2.1 ++ (w_Sg_ (ad_bc 100) ad_sg tC R.2.2.1 ++ (w_Tr_ (ad_bc 104) ad_tr tC R.2.2.2.1 ++ (w_Tr_ (ad_bc 105) ad_tu tC R.2.2.2.2.1 ++ (w_Ff_ (ad_bc 103) ad_ff tC R.2.2.2.2.2.1 ++ (w_Pl_ (ad_bc 101) ad_pl tC R.2.2.2.2.2.2.1 ++ (w_Lw_ (ad_bc 102) ad_lw tC R.2.2.2.2.2.2.2.1 ++ ((w_Sf_ q a tC x ++ TL))))))))))))) 3 9 (va_A (w_Bc_ h_bc ad_bc tC rf bc ++ (w_Sg_ (ad_bc 100) ad_sg tC sg ++ (w_Tr_ (ad_bc 104) ad_tr tC tr ++ (w_Tr_ (ad_bc 105) ad_tu tC tu ++ (w_Ff_ (ad_bc 103) ad_ff tC ff ++ (w_Pl_ (ad_bc 101) ad_pl tC pl ++ (w_Lw_ (ad_bc 102) ad_lw tC lw ++ TL))))))) sz) := by
  refine Met.ofW (cc := c_Bc_stock) (maxL := 6) (ret := (some (.boolean))) (by decide) rfl ?_
  intro p e s m args below meth c s₁ B hml hv
  obtain ⟨⟨hav, hsz, hP, hK, hD0⟩, hN⟩ := hv
  have hx := B.exec
  have hb := B.bytes
  have hr := B.returns
  have hts : ∀ w ∈ gw, w.before args s = true := fun w h => atoms_spec (ws := w_Bc_stock) B.pre w (List.mem_cons_of_mem _ h)
  have hown : s.vm.findClass RX8 = some m.cls := findClass_of_methodNamed B.named
  have hlocks := B.notSynchronized
  subst hsz
  have hD := hD0.self (sz := s.heap.size)
  obtain ⟨A, hAe⟩ : ∃ z, z = va_A (w_Bc_ h_bc ad_bc tC rf bc ++ (w_Sg_ (ad_bc 100) ad_sg tC sg ++ (w_Tr_ (ad_bc 104) ad_tr tC tr ++ (w_Tr_ (ad_bc 105) ad_tu tC tu ++ (w_Ff_ (ad_bc 103) ad_ff tC ff ++ (w_Pl_ (ad_bc 101) ad_pl tC pl ++ (w_Lw_ (ad_bc 102) ad_lw tC lw ++ TL))))))) s.heap.size := ⟨_, rfl⟩
  rw [← hAe] at hD
  have hA : ∀ q : Nat, s.heap.size ≤ q → A q := fun q h => by rw [hAe]; exact Or.inr h
  have hS : va_S A s.heap s.heap [] := va_S.rf
  refine q_w (R := rm_Bc_stock_n) (fun Q hQ => ?_)
  refine en_w (av := [.ref h_bc, .int p1, .long p2, .int p3]) hav (Nat.le_of_ble_eq_true rfl) (fun ls hl => ?_)
  have hl : lv_has ls 6 [(0, .ref h_bc), (1, .int p1), (2, .long p2), (4, .int p3)] := hl
  unfold f_Bc_stock_n at hf
  refine lv_iload_n hx hb d_Bc_stock_0 rfl (lv_at hl 1 rfl) ?_
  obtain ⟨q1, hq1, hf⟩ := op_b hf
  refine ro_go rfl (va_runS (As := [.int p1]) (rest := []) ⟨hx, hb, hml, hown, hts⟩ (m_Bc_isDiameter l dC dI tC p1 q1 _  hq1) (cwS 1 hts (gd_S kM_8_91 kS_Bc_isDiameter kZ_8 kC_Bc_isDiameter) rfl rfl rfl (by decide +kernel) ⟨(Nat.le_of_ble_eq_true rfl), (Nat.le_of_ble_eq_true rfl)⟩) ⟨ro_blind, ro_pre hK⟩ rfl rfl hl.1 rfl (lv_room (Nat.le_of_ble_eq_true rfl)) d_Bc_stock_1 ⟨(Nat.le_of_ble_eq_true rfl), (Nat.le_of_ble_eq_true rfl)⟩) ?_
  refine W.eq (g2 := F0 m 4 ls [.int q1]) rfl ?_
  refine lv_if_eq (tgt := 21) hx hb d_Bc_stock_4 (by decide) (fun c2 => ?_) (fun c2 => ?_)
  · have hf := op_t hf c2
    refine lv_iconst (v := 0) hx hb d_Bc_stock_21 (by decide) ?_
    obtain rfl := Option.some.inj hf
    subst hQ
    subst hAe
    refine W.widen (k := 3) (n := 9) (by decide +kernel) (by decide +kernel) ?_
    exact W.zret (v := 0) (ty := .boolean) hx hb hr (by decide) (fun t ht hW => ⟨⟨_, _, rfl, ⟨rfl, Or.inl ⟨rfl, rfl⟩⟩, by rw [ht]; exact hP, hD⟩, hS.F ht⟩) hS.2.2 d_Bc_stock_22
  · have hf := op_e hf c2
    refine lv_lload_n hx hb d_Bc_stock_7 rfl (lv_at hl 2 rfl) ?_
    refine lv_lconst (v := 1) hx hb d_Bc_stock_8 (by decide) ?_
    refine W.lcmp hx hb d_Bc_stock_9 ?_
    refine lv_if_lt (tgt := 21) hx hb d_Bc_stock_10 (by decide) (fun c3 => ?_) (fun c3 => ?_)
    · have c3 := (lg_cmp_lt _ _).mp c3
      have hf := op_t hf c3
      refine lv_iconst (v := 0) hx hb d_Bc_stock_21 (by decide) ?_
      obtain rfl := Option.some.inj hf
      subst hQ
      subst hAe
      refine W.widen (k := 3) (n := 9) (by decide +kernel) (by decide +kernel) ?_
      exact W.zret (v := 0) (ty := .boolean) hx hb hr (by decide) (fun t ht hW => ⟨⟨_, _, rfl, ⟨rfl, Or.inl ⟨rfl, rfl⟩⟩, by rw [ht]; exact hP, hD⟩, hS.F ht⟩) hS.2.2 d_Bc_stock_22
    · have c3 := fun h9 => c3 ((lg_cmp_lt _ _).mpr h9)
      have hf := op_e hf c3
      refine lv_lload_n hx hb d_Bc_stock_13 rfl (lv_at hl 2 rfl) ?_
      refine lv_ldc2 (v := 30000) hx hb hown (hts _ kK_8_135) d_Bc_stock_14 ?_
      refine W.lcmp hx hb d_Bc_stock_17 ?_
      refine lv_if_le (tgt := 23) hx hb d_Bc_stock_18 (by decide) (fun c4 => ?_) (fun c4 => ?_)
      · have c4 := (lg_cmp_le _ _).mp c4
        have hf := op_t hf c4
        refine lv_iload hx hb d_Bc_stock_23 (lv_at hl 3 rfl) ?_
        refine lv_if_lt (tgt := 35) hx hb d_Bc_stock_25 (by decide) (fun c5 => ?_) (fun c5 => ?_)
        · have hf := op_t hf c5
          refine lv_iconst (v := 0) hx hb d_Bc_stock_35 (by decide) ?_
          obtain rfl := Option.some.inj hf
          subst hQ
          subst hAe
          refine W.widen (k := 3) (n := 9) (by decide +kernel) (by decide +kernel) ?_
          exact W.zret (v := 0) (ty := .boolean) hx hb hr (by decide) (fun t ht hW => ⟨⟨_, _, rfl, ⟨rfl, Or.inl ⟨rfl, rfl⟩⟩, by rw [ht]; exact hP, hD⟩, hS.F ht⟩) hS.2.2 d_Bc_stock_36
        · have hf := op_e hf c5
          refine lv_iload hx hb d_Bc_stock_28 (lv_at hl 3 rfl) ?_
          refine lv_bipush (v := 20) hx hb d_Bc_stock_30 (by decide) ?_
          refine lv_icmp_le (tgt := 37) hx hb d_Bc_stock_32 (by decide) (fun c6 => ?_) (fun c6 => ?_)
          · have hf := op_t hf c6
            refine lv_aload_n hx hb d_Bc_stock_37 rfl (lv_at hl 0 rfl) ?_
            refine va_get (D := (dC, dI)) (ci := 8) (v := .ref (ad_bc 3)) (C := RX8) (T := TX8) (N := 12) hx hb hts in_X8 hown hK hP 0 rfl rfl 4 (by decide) (hts _ kF_8_34) (fun _ h9 => h9) rfl d_Bc_stock_38 ?_
            refine lv_iload_n hx hb d_Bc_stock_41 rfl (lv_at hl 1 rfl) ?_
            refine lv_iconst (v := 4) hx hb d_Bc_stock_42 (by decide) ?_
            refine lv_isub hx hb d_Bc_stock_43 ?_
            obtain ⟨hi7, hf⟩ := op_if hf
            refine va_aldq (f := rf 2) hx hb hK hP 4 6 rfl rfl (ix_in hi7) d_Bc_stock_44 ?_
            refine rw_n (hFM.2.2.2.2.2.1 _ hq0) ?_
            refine lv_astoreN (lv' := [(5, .null), (0, .ref h_bc), (1, .int p1), (2, .long p2), (4, .int p3)]) hx hb d_Bc_stock_45 hl (by decide) rfl (fun ls hl => ?_)
            refine lv_aloadN hx hb d_Bc_stock_47 (lv_at hl 0 rfl) ?_
            refine lv_ifnonnullN hx hb d_Bc_stock_49 ?_
            refine va_new (ci := 5) (fs := [.null, .null, .int 0]) (C := RX5) (T := TX5) (N := 3) hx hb hts in_X5 tyX5 tyX5_ok hown (hts _ kL_8_32) (hts _ kN_5) (hts _ kZ_5) hK hP hD hS hA rfl (fun j hj => (by decide +kernel : ∀ j, j < 3 → defaultValue (tyX5 j) = vp_V [.null, .null, .int 0] j) j hj) (by decide +kernel) (by decide +kernel) d_Bc_stock_52 (fun qB H hP hD hS => ?_)
            refine lv_dup hx hb d_Bc_stock_55 rfl ?_
            have hPx : va_P (dC, dI) vwCl ((w_Bc_ h_bc ad_bc tC rf bc ++ (w_Sg_ (ad_bc 100) ad_sg tC sg ++ (w_Tr_ (ad_bc 104) ad_tr tC tr ++ (w_Tr_ (ad_bc 105) ad_tu tC tu ++ (w_Ff_ (ad_bc 103) ad_ff tC ff ++ (w_Pl_ (ad_bc 101) ad_pl tC pl ++ (w_Lw_ (ad_bc 102) ad_lw tC lw ++ TL))))))) ++ [(qB, .inr (5, [.null, .null, .int 0]))]) H := hP
            have hDx : va_D A ((w_Bc_ h_bc ad_bc tC rf bc ++ (w_Sg_ (ad_bc 100) ad_sg tC sg ++ (w_Tr_ (ad_bc 104) ad_tr tC tr ++ (w_Tr_ (ad_bc 105) ad_tu tC tu ++ (w_Ff_ (ad_bc 103) ad_ff tC ff ++ (w_Pl_ (ad_bc 101) ad_pl tC pl ++ (w_Lw_ (ad_bc 102) ad_lw tC lw ++ TL))))))) ++ [(qB, .inr (5, [.null, .null, .int 0]))]) := hD
            have hPc := va_P_in hPx (w := [(qB, .inr (5, [.null, .null, .int 0]))]) (fun q h => List.mem_append_right _ h)
            have hDc : va_D A [(qB, .inr (5, [.null, .null, .int 0]))] := D_r hDx
            have hFc : ∀ q, va_A [(qB, .inr (5, [.null, .null, .int 0]))] H.size q → A q := va_freeAll hDc hS hA
            refine wr_go (va_runIN (As := []) (rest := [.ref qB]) ⟨hx, hb, hml, hown, hts⟩ (m_Sf_init l dC dI tC qB H.size) ⟨va_cnB 0 hts (gd_O kC_Sf_init) rfl rfl rfl hN.2.2.2.2.2.1 (hts _ kZ_5) (by decide +kernel) ⟨(Nat.le_of_ble_eq_true rfl), (Nat.le_of_ble_eq_true rfl)⟩, rfl, hts _ kI_Sf_init⟩ ⟨wr_blind, wr_pre hK hPc hDc⟩ rfl rfl hl.1 rfl (lv_room (Nat.le_of_ble_eq_true rfl)) d_Bc_stock_56 ⟨(by decide +kernel), (by decide +kernel)⟩) hS hFc (fun r w1 H1 locs hw hP1 hD1 hk1 hS => ?_)
            obtain ⟨rfl, qC, rfl⟩ := hw
            obtain ⟨hP, hD⟩ := jn_A hPx hDx hk1 hFc hP1 hD1
            clear hP1 hD1 hk1 hPc hDc hFc hPx hDx
            have hP := pm_P (pm_rot (X := (w_Bc_ h_bc ad_bc tC rf bc ++ (w_Sg_ (ad_bc 100) ad_sg tC sg ++ (w_Tr_ (ad_bc 104) ad_tr tC tr ++ (w_Tr_ (ad_bc 105) ad_tu tC tu ++ (w_Ff_ (ad_bc 103) ad_ff tC ff ++ (w_Pl_ (ad_bc 101) ad_pl tC pl ++ w_Lw_ (ad_bc 102) ad_lw tC lw))))))) (N := w_Sf_ qB qC tC (S0)) (TL := TL)) (cv_P hP (by simp only [List.append_assoc]))
            have hD := pm_D (pm_rot (X := (w_Bc_ h_bc ad_bc tC rf bc ++ (w_Sg_ (ad_bc 100) ad_sg tC sg ++ (w_Tr_ (ad_bc 104) ad_tr tC tr ++ (w_Tr_ (ad_bc 105) ad_tu tC tu ++ (w_Ff_ (ad_bc 103) ad_ff tC ff ++ (w_Pl_ (ad_bc 101) ad_pl tC pl ++ w_Lw_ (ad_bc 102) ad_lw tC lw))))))) (N := w_Sf_ qB qC tC (S0)) (TL := TL)) (cv_D hD (by simp only [List.append_assoc]))
            obtain ⟨nw1, hnw1, hf⟩ := op_b hf
            rw [Option.some.inj hnw1] at hP hD
            have hP := cv_P (ws' := (w_Bc_ h_bc ad_bc tC rf bc ++ (w_Sg_ (ad_bc 100) ad_sg tC sg ++ (w_Tr_ (ad_bc 104) ad_tr tC tr ++ (w_Tr_ (ad_bc 105) ad_tu tC tu ++ (w_Ff_ (ad_bc 103) ad_ff tC ff ++ (w_Pl_ (ad_bc 101) ad_pl tC pl ++ (w_Lw_ (ad_bc 102) ad_lw tC lw ++ (w_Sf_ qB qC tC nw1 ++ TL))))))))) hP (by simp only [List.append_assoc])
            have hD := cv_D (ws' := (w_Bc_ h_bc ad_bc tC rf bc ++ (w_Sg_ (ad_bc 100) ad_sg tC sg ++ (w_Tr_ (ad_bc 104) ad_tr tC tr ++ (w_Tr_ (ad_bc 105) ad_tu tC tu ++ (w_Ff_ (ad_bc 103) ad_ff tC ff ++ (w_Pl_ (ad_bc 101) ad_pl tC pl ++ (w_Lw_ (ad_bc 102) ad_lw tC lw ++ (w_Sf_ qB qC tC nw1 ++ TL))))))))) hD (by simp only [List.append_assoc])
            refine W.eq (g2 := F0 m 59 ls [.ref qB]) rfl ?_
            refine lv_astore (lv' := [(5, .ref qB), (0, .ref h_bc), (1, .int p1), (2, .long p2), (4, .int p3)]) hx hb d_Bc_stock_59 hl (by decide) rfl (fun ls hl => ?_)
            refine lv_aload_n hx hb d_Bc_stock_61 rfl (lv_at hl 1 rfl) ?_
            refine va_get (D := (dC, dI)) (ci := 8) (v := .ref (ad_bc 3)) (C := RX8) (T := TX8) (N := 12) hx hb hts in_X8 hown hK hP 0 rfl rfl 4 (by decide) (hts _ kF_8_34) (fun _ h9 => h9) rfl d_Bc_stock_62 ?_
            refine lv_iload_n hx hb d_Bc_stock_65 rfl (lv_at hl 2 rfl) ?_
            refine lv_iconst (v := 4) hx hb d_Bc_stock_66 (by decide) ?_
            refine lv_isub hx hb d_Bc_stock_67 ?_
            refine lv_aload hx hb d_Bc_stock_68 (lv_at hl 0 rfl) ?_
            obtain ⟨hi8, hf⟩ := op_if hf
            refine va_astq (f := rf 2) hx hb hK hP hD hS 4 6 38 5 rfl rfl rfl rfl (ix_in hi8) d_Bc_stock_70 (fun H locs hP hD hS => ?_)
            rw [sl_Bc_4, wu_Bc_r2] at hP hD
            obtain ⟨rf1, hrf1⟩ : ∃ z, z = va_up rf 2 (va_up (rf 2) (p1 - 4).toNatClampNeg (some qB)) := ⟨_, rfl⟩
            rw [← hrf1] at hP hD
            refine lv_aload hx hb d_Bc_stock_71 (lv_at hl 0 rfl) ?_
            refine lv_lload_n hx hb d_Bc_stock_73 rfl (lv_at hl 3 rfl) ?_
            refine lv_l2i (v := p2.toInt32) hx hb d_Bc_stock_74 rfl ?_
            refine lv_iload hx hb d_Bc_stock_75 (lv_at hl 4 rfl) ?_
            obtain ⟨q9, hq9, hf⟩ := op_b hf
            have hPx := cv_P (ws' := (w_Bc_ h_bc ad_bc tC rf1 bc ++ (w_Sg_ (ad_bc 100) ad_sg tC sg ++ (w_Tr_ (ad_bc 104) ad_tr tC tr ++ (w_Tr_ (ad_bc 105) ad_tu tC tu ++ (w_Ff_ (ad_bc 103) ad_ff tC ff ++ (w_Pl_ (ad_bc 101) ad_pl tC pl ++ w_Lw_ (ad_bc 102) ad_lw tC lw)))))) ++ ((w_Sf_ qB qC tC nw1) ++ (TL))) hP (by simp only [List.append_assoc, List.nil_append])
            have hDx := cv_D (ws' := (w_Bc_ h_bc ad_bc tC rf1 bc ++ (w_Sg_ (ad_bc 100) ad_sg tC sg ++ (w_Tr_ (ad_bc 104) ad_tr tC tr ++ (w_Tr_ (ad_bc 105) ad_tu tC tu ++ (w_Ff_ (ad_bc 103) ad_ff tC ff ++ (w_Pl_ (ad_bc 101) ad_pl tC pl ++ w_Lw_ (ad_bc 102) ad_lw tC lw)))))) ++ ((w_Sf_ qB qC tC nw1) ++ (TL))) hD (by simp only [List.append_assoc, List.nil_append])
            obtain ⟨hPc, hDc, hFc⟩ := bk_cut0 hPx hDx hS hA
            refine wr_go (va_runV (As := [.int p2.toInt32, .int p3]) (rest := []) ⟨hx, hb, hml, hown, hts⟩ (m_Sf_add l dC dI tC qB qC nw1 p2.toInt32 p3 q9 hq9 _) (cwV 2 hts (gd_V kM_8_138 kI_Sf_add kV_Sf_add kZ_5 kC_Sf_add) rfl rfl rfl (by decide +kernel) ⟨(Nat.le_of_ble_eq_true rfl), (Nat.le_of_ble_eq_true rfl)⟩) ⟨wr_blind, va_recv hK hP (ci := 5) (q0 := 38) rfl rfl, wr_pre hK hPc hDc⟩ rfl rfl hl.1 rfl (lv_room (Nat.le_of_ble_eq_true rfl)) d_Bc_stock_77 ⟨(Nat.le_of_ble_eq_true rfl), (Nat.le_of_ble_eq_true rfl)⟩) hS hFc (fun r w1 H1 locs hw hP1 hD1 hk1 hS => ?_)
            obtain ⟨rfl, rfl⟩ := hw
            obtain ⟨hP, hD⟩ := bk_join0 (B1 := (w_Sf_ qB qC tC q9.2)) hPx hDx hk1 hP1 rfl
            clear hP1 hD1 hk1 hPc hDc hFc hPx hDx
            have hP := cv_P (ws' := (w_Bc_ h_bc ad_bc tC rf1 bc ++ (w_Sg_ (ad_bc 100) ad_sg tC sg ++ (w_Tr_ (ad_bc 104) ad_tr tC tr ++ (w_Tr_ (ad_bc 105) ad_tu tC tu ++ (w_Ff_ (ad_bc 103) ad_ff tC ff ++ (w_Pl_ (ad_bc 101) ad_pl tC pl ++ (w_Lw_ (ad_bc 102) ad_lw tC lw ++ (w_Sf_ qB qC tC q9.2 ++ TL))))))))) hP (by simp only [List.append_assoc, List.nil_append])
            have hD := cv_D (ws' := (w_Bc_ h_bc ad_bc tC rf1 bc ++ (w_Sg_ (ad_bc 100) ad_sg tC sg ++ (w_Tr_ (ad_bc 104) ad_tr tC tr ++ (w_Tr_ (ad_bc 105) ad_tu tC tu ++ (w_Ff_ (ad_bc 103) ad_ff tC ff ++ (w_Pl_ (ad_bc 101) ad_pl tC pl ++ (w_Lw_ (ad_bc 102) ad_lw tC lw ++ (w_Sf_ qB qC tC q9.2 ++ TL))))))))) hD (by simp only [List.append_assoc, List.nil_append])
            refine W.eq (g2 := F0 m 80 ls [.int q9.1]) rfl ?_
            refine lv_if_ne (tgt := 85) hx hb d_Bc_stock_80 (by decide) (fun c10 => ?_) (fun c10 => ?_)
            · have hf := op_e hf c10
              refine lv_aload_n hx hb d_Bc_stock_85 rfl (lv_at hl 1 rfl) ?_
              refine va_get (D := (dC, dI)) (ci := 8) (v := .ref (ad_bc 101)) (C := RX8) (T := TX8) (N := 12) hx hb hts in_X8 hown hK hP 0 rfl rfl 5 (by decide) (hts _ kF_8_41) (fun _ h9 => h9) rfl d_Bc_stock_86 ?_
              obtain ⟨q11, hq11, hf⟩ := op_b hf
              have hPx := cv_P (ws' := (w_Bc_ h_bc ad_bc tC rf1 bc ++ (w_Sg_ (ad_bc 100) ad_sg tC sg ++ (w_Tr_ (ad_bc 104) ad_tr tC tr ++ (w_Tr_ (ad_bc 105) ad_tu tC tu ++ w_Ff_ (ad_bc 103) ad_ff tC ff)))) ++ ((w_Pl_ (ad_bc 101) ad_pl tC pl) ++ (w_Lw_ (ad_bc 102) ad_lw tC lw ++ (w_Sf_ qB qC tC q9.2 ++ TL)))) hP (by simp only [List.append_assoc, List.nil_append])
              have hDx := cv_D (ws' := (w_Bc_ h_bc ad_bc tC rf1 bc ++ (w_Sg_ (ad_bc 100) ad_sg tC sg ++ (w_Tr_ (ad_bc 104) ad_tr tC tr ++ (w_Tr_ (ad_bc 105) ad_tu tC tu ++ w_Ff_ (ad_bc 103) ad_ff tC ff)))) ++ ((w_Pl_ (ad_bc 101) ad_pl tC pl) ++ (w_Lw_ (ad_bc 102) ad_lw tC lw ++ (w_Sf_ qB qC tC q9.2 ++ TL)))) hD (by simp only [List.append_assoc, List.nil_append])
              obtain ⟨hPc, hDc, hFc⟩ := bk_cut0 hPx hDx hS hA
              refine wr_go (va_runV (As := []) (rest := []) ⟨hx, hb, hml, hown, hts⟩ (m_Pl_clear l dC dI tC (ad_bc 101) ad_pl pl q11 hq11 _) (cwV 0 hts (gd_V kM_8_96 kI_Pl_clear kV_Pl_clear kZ_3 kC_Pl_clear) rfl rfl rfl (by decide +kernel) ⟨(Nat.le_of_ble_eq_true rfl), (Nat.le_of_ble_eq_true rfl)⟩) ⟨wr_blind, va_recv hK hP (ci := 3) (q0 := 21) rfl rfl, wr_pre hK hPc hDc⟩ rfl rfl hl.1 rfl (lv_room (Nat.le_of_ble_eq_true rfl)) d_Bc_stock_89 ⟨(Nat.le_of_ble_eq_true rfl), (Nat.le_of_ble_eq_true rfl)⟩) hS hFc (fun r w1 H1 locs hw hP1 hD1 hk1 hS => ?_)
              obtain ⟨rfl, rfl⟩ := hw
              obtain ⟨hP, hD⟩ := bk_join0 (B1 := (w_Pl_ (ad_bc 101) ad_pl tC q11.2)) hPx hDx hk1 hP1 rfl
              clear hP1 hD1 hk1 hPc hDc hFc hPx hDx
              have hP := cv_P (ws' := (w_Bc_ h_bc ad_bc tC rf1 bc ++ (w_Sg_ (ad_bc 100) ad_sg tC sg ++ (w_Tr_ (ad_bc 104) ad_tr tC tr ++ (w_Tr_ (ad_bc 105) ad_tu tC tu ++ (w_Ff_ (ad_bc 103) ad_ff tC ff ++ (w_Pl_ (ad_bc 101) ad_pl tC q11.2 ++ (w_Lw_ (ad_bc 102) ad_lw tC lw ++ (w_Sf_ qB qC tC q9.2 ++ TL))))))))) hP (by simp only [List.append_assoc, List.nil_append])
              have hD := cv_D (ws' := (w_Bc_ h_bc ad_bc tC rf1 bc ++ (w_Sg_ (ad_bc 100) ad_sg tC sg ++ (w_Tr_ (ad_bc 104) ad_tr tC tr ++ (w_Tr_ (ad_bc 105) ad_tu tC tu ++ (w_Ff_ (ad_bc 103) ad_ff tC ff ++ (w_Pl_ (ad_bc 101) ad_pl tC q11.2 ++ (w_Lw_ (ad_bc 102) ad_lw tC lw ++ (w_Sf_ qB qC tC q9.2 ++ TL))))))))) hD (by simp only [List.append_assoc, List.nil_append])
              refine W.eq (g2 := F0 m 92 ls []) rfl ?_
              refine lv_iconst (v := 1) hx hb d_Bc_stock_92 (by decide) ?_
              obtain rfl := Option.some.inj hf
              subst hQ
              subst hAe
              subst hrf1
              refine W.widen (k := 3) (n := 9) (by decide +kernel) (by decide +kernel) ?_
              exact W.zret (v := 1) (ty := .boolean) hx hb hr (by decide) (fun t ht hW => ⟨⟨_, _, rfl, ⟨rfl, Or.inr ⟨_, rfl, qB, qC, rfl⟩⟩, by rw [ht]; exact hP, hD⟩, hS.F ht⟩) hS.2.2 d_Bc_stock_93
            · have hf := op_t hf c10
              refine lv_iconst (v := 0) hx hb d_Bc_stock_83 (by decide) ?_
              obtain rfl := Option.some.inj hf
              subst hQ
              subst hAe
              subst hrf1
              refine W.widen (k := 3) (n := 9) (by decide +kernel) (by decide +kernel) ?_
              exact W.zret (v := 0) (ty := .boolean) hx hb hr (by decide) (fun t ht hW => ⟨⟨_, _, rfl, ⟨rfl, Or.inr ⟨_, rfl, qB, qC, rfl⟩⟩, by rw [ht]; exact hP, hD⟩, hS.F ht⟩) hS.2.2 d_Bc_stock_84
          · have hf := op_e hf c6
            refine lv_iconst (v := 0) hx hb d_Bc_stock_35 (by decide) ?_
            obtain rfl := Option.some.inj hf
            subst hQ
            subst hAe
            refine W.widen (k := 3) (n := 9) (by decide +kernel) (by decide +kernel) ?_
            exact W.zret (v := 0) (ty := .boolean) hx hb hr (by decide) (fun t ht hW => ⟨⟨_, _, rfl, ⟨rfl, Or.inl ⟨rfl, rfl⟩⟩, by rw [ht]; exact hP, hD⟩, hS.F ht⟩) hS.2.2 d_Bc_stock_36
      · have c4 := fun h9 => c4 ((lg_cmp_le _ _).mpr h9)
        have hf := op_e hf c4
        refine lv_iconst (v := 0) hx hb d_Bc_stock_21 (by decide) ?_
        obtain rfl := Option.some.inj hf
        subst hQ
        subst hAe
        refine W.widen (k := 3) (n := 9) (by decide +kernel) (by decide +kernel) ?_
        exact W.zret (v := 0) (ty := .boolean) hx hb hr (by decide) (fun t ht hW => ⟨⟨_, _, rfl, ⟨rfl, Or.inl ⟨rfl, rfl⟩⟩, by rw [ht]; exact hP, hD⟩, hS.F ht⟩) hS.2.2 d_Bc_stock_22
def f_Bc_stock_i (nl : Nat) (nT : Nat → Nat) (LS : Nat → MS) (TS : Nat → MS) (FP : Nat → Bool) (FS : Nat → MS) (bc : MS) (sg : MS) (tr : MS) (tu : MS) (ff : MS) (pl : MS) (lw : MS) (d0 : Nat) (p1 : Int32) (p2 : Int64) (p3 : Int32) : Option (Int32 × MS × MS × MS × MS × MS × MS × MS × MS) := (f_Bc_isDiameter p1).bind fun q1 => (if q1 = 0 then some (0, bc, sg, tr, tu, ff, pl, lw, FS d0) else (if p2 < 1 then some (0, bc, sg, tr, tu, ff, pl, lw, FS d0) else (if p2 ≤ 30000 then (if p3 < 0 then some (0, bc, sg, tr, tu, ff, pl, lw, FS d0) else (if p3 ≤ 20 then if ix (p1 - 4) 37 then (f_Sf_add (FS d0) p2.toInt32 p3).bind fun q8 => (if q8.1 = 0 then some (0, bc, sg, tr, tu, ff, pl, lw, q8.2) else (f_Pl_clear pl).bind fun q10 => some (1, bc, sg, tr, tu, ff, q10.2, lw, q8.2)) else none else some (0, bc, sg, tr, tu, ff, pl, lw, FS d0))) else some (0, bc, sg, tr, tu, ff, pl, lw, FS d0))))
def rm_Bc_stock_i : Room := { frames := 1, cells := 0, slots := 0, locals := 22 }
set_option maxHeartbeats 4000000 in
set_option maxRecDepth 100000 in
theorem m_Bc_stock_i (l : Launch) (dC : Nat → ClassId) (dI : Nat → Nat → Nat) (tC : Nat → ClassId) (TL0 : va_W) (d0 : Nat) (nl : Nat) (hL : Nat → Nat) (adL aT : Nat → Nat → Nat) (nT : Nat → Nat) (LS TS : Nat → MS) (FP : Nat → Bool) (hF : Nat → Nat) (adF : Nat → Nat → Nat) (FS : Nat → MS) (rf : Nat → Nat → Option Nat) (h_bc : Nat) (ad_bc : Nat → Nat) (bc : MS) (ad_sg : Nat → Nat) (sg : MS) (ad_tr : Nat → Nat) (tr : MS) (ad_tu : Nat → Nat) (tu : MS) (ad_ff : Nat → Nat) (ff : MS) (ad_pl : Nat → Nat) (pl : MS) (ad_lw : Nat → Nat) (lw : MS) (p1 : Int32) (p2 : Int64) (p3 : Int32) (R : Int32 × MS × MS × MS × MS × MS × MS × MS × MS) (hFM : FM tC (w_Sf_ (hF d0) (adF d0) tC (FS d0) ++ TL0) nl hL adL aT nT LS TS FP hF adF FS rf) (hq0 : (p1 - 4).toNatClampNeg = d0 ∧ FP d0 = true) (hf : f_Bc_stock_i nl nT LS TS FP FS bc sg tr tu ff pl lw d0 p1 p2 p3 = some R) (sz : Nat) : Met l y_Bc_stock w_Bc_stock rm_Bc_stock_i (wrP (dC, dI) tC (w_Bc_ h_bc ad_bc tC rf bc ++ (w_Sg_ (ad_bc 100) ad_sg tC sg ++ (w_Tr_ (ad_bc 104) ad_tr tC tr ++ (w_Tr_ (ad_bc 105) ad_tu tC tu ++ (w_Ff_ (ad_bc 103) ad_ff tC ff ++ (w_Pl_ (ad_bc 101) ad_pl tC pl ++ (w_Lw_ (ad_bc 102) ad_lw tC lw ++ (w_Sf_ (hF d0) (adF d0) tC (FS d0) ++ TL0)))))))) sz [.ref h_bc, .int p1, .long p2, .int p3]) (wrQ (dC, dI) (w_Bc_ h_bc ad_bc tC rf bc ++ (w_Sg_ (ad_bc 100) ad_sg tC sg ++ (w_Tr_ (ad_bc 104) ad_tr tC tr ++ (w_Tr_ (ad_bc 105) ad_tu tC tu ++ (w_Ff_ (ad_bc 103) ad_ff tC ff ++ (w_Pl_ (ad_bc 101) ad_pl tC pl ++ (w_Lw_ (ad_bc 102) ad_lw tC lw ++ (w_Sf_ (hF d0) (adF d0) tC (FS d0) ++ TL0)))))))) sz (fun r w => r = some (.int R.1) ∧ w = (w_Bc_ h_bc ad_bc tC rf R.2.1 ++ (w_Sg_ (ad_bc 100) ad_sg tC R.2.2.1 ++ (w_Tr_ (ad_bc 104) ad_tr tC R.2.2.2.1 ++ (w_Tr_ (ad_bc 105) ad_tu tC R.2.2.2.2.1 ++ (w_Ff_ (ad_bc 103) ad_ff tC R.2.2.2.2.2.1 ++ (w_Pl_ (ad_bc 101) ad_pl tC R.2.2.2.2.2.2.1 ++ (w_Lw_ (ad_bc 102) ad_lw tC R.2.2.2.2.2.2.2.1 ++ (w_Sf_ (hF d0) (adF d0) tC R.2.2.2.2.2.2.2.2 ++ TL0)))))))))) 0 0 (va_A (w_Bc_ h_bc ad_bc tC rf bc ++ (w_Sg_ (ad_bc 100) ad_sg tC sg ++ (w_Tr_ (ad_bc 104) ad_tr tC tr ++ (w_Tr_ (ad_bc 105) ad_tu tC tu ++ (w_Ff_ (ad_bc 103) ad_ff tC ff ++ (w_Pl_ (ad_bc 101) ad_pl tC pl ++ (w_Lw_ (ad_bc 102) ad_lw tC lw ++ (w_Sf_ (hF d0) (adF d0) tC (FS d0) ++ TL0)))))))) sz) := by
  refine Met.ofW (cc := c_Bc_stock) (maxL := 6) (ret := (some (.boolean))) (by decide) rfl ?_
  intro p e s m args below meth c s₁ B hml hv
  obtain ⟨hav, hsz, hP, hK, hD0⟩ := hv
  have hx := B.exec
  have hb := B.bytes
  have hr := B.returns
  have hts : ∀ w ∈ gw, w.before args s = true := fun w h => atoms_spec (ws := w_Bc_stock) B.pre w (List.mem_cons_of_mem _ h)
  have hown : s.vm.findClass RX8 = some m.cls := findClass_of_methodNamed B.named
  have hlocks := B.notSynchronized
  subst hsz
  have hD := hD0.self (sz := s.heap.size)
  obtain ⟨A, hAe⟩ : ∃ z, z = va_A (w_Bc_ h_bc ad_bc tC rf bc ++ (w_Sg_ (ad_bc 100) ad_sg tC sg ++ (w_Tr_ (ad_bc 104) ad_tr tC tr ++ (w_Tr_ (ad_bc 105) ad_tu tC tu ++ (w_Ff_ (ad_bc 103) ad_ff tC ff ++ (w_Pl_ (ad_bc 101) ad_pl tC pl ++ (w_Lw_ (ad_bc 102) ad_lw tC lw ++ (w_Sf_ (hF d0) (adF d0) tC (FS d0) ++ TL0)))))))) s.heap.size := ⟨_, rfl⟩
  rw [← hAe] at hD
  have hA : ∀ q : Nat, s.heap.size ≤ q → A q := fun q h => by rw [hAe]; exact Or.inr h
  have hS : va_S A s.heap s.heap [] := va_S.rf
  refine q_w (R := rm_Bc_stock_i) (fun Q hQ => ?_)
  refine en_w (av := [.ref h_bc, .int p1, .long p2, .int p3]) hav (Nat.le_of_ble_eq_true rfl) (fun ls hl => ?_)
  have hl : lv_has ls 6 [(0, .ref h_bc), (1, .int p1), (2, .long p2), (4, .int p3)] := hl
  unfold f_Bc_stock_i at hf
  refine lv_iload_n hx hb d_Bc_stock_0 rfl (lv_at hl 1 rfl) ?_
  obtain ⟨q1, hq1, hf⟩ := op_b hf
  refine ro_go rfl (va_runS (As := [.int p1]) (rest := []) ⟨hx, hb, hml, hown, hts⟩ (m_Bc_isDiameter l dC dI tC p1 q1 _  hq1) (cwS 1 hts (gd_S kM_8_91 kS_Bc_isDiameter kZ_8 kC_Bc_isDiameter) rfl rfl rfl (by decide +kernel) ⟨(Nat.le_of_ble_eq_true rfl), (Nat.le_of_ble_eq_true rfl)⟩) ⟨ro_blind, ro_pre hK⟩ rfl rfl hl.1 rfl (lv_room (Nat.le_of_ble_eq_true rfl)) d_Bc_stock_1 ⟨(Nat.le_of_ble_eq_true rfl), (Nat.le_of_ble_eq_true rfl)⟩) ?_
  refine W.eq (g2 := F0 m 4 ls [.int q1]) rfl ?_
  refine lv_if_eq (tgt := 21) hx hb d_Bc_stock_4 (by decide) (fun c2 => ?_) (fun c2 => ?_)
  · have hf := op_t hf c2
    refine lv_iconst (v := 0) hx hb d_Bc_stock_21 (by decide) ?_
    obtain rfl := Option.some.inj hf
    subst hQ
    subst hAe
    refine W.widen (k := 0) (n := 0) (by decide +kernel) (by decide +kernel) ?_
    exact W.zret (v := 0) (ty := .boolean) hx hb hr (by decide) (fun t ht hW => ⟨⟨_, _, rfl, ⟨rfl, rfl⟩, by rw [ht]; exact hP, hD⟩, hS.F ht⟩) hS.2.2 d_Bc_stock_22
  · have hf := op_e hf c2
    refine lv_lload_n hx hb d_Bc_stock_7 rfl (lv_at hl 2 rfl) ?_
    refine lv_lconst (v := 1) hx hb d_Bc_stock_8 (by decide) ?_
    refine W.lcmp hx hb d_Bc_stock_9 ?_
    refine lv_if_lt (tgt := 21) hx hb d_Bc_stock_10 (by decide) (fun c3 => ?_) (fun c3 => ?_)
    · have c3 := (lg_cmp_lt _ _).mp c3
      have hf := op_t hf c3
      refine lv_iconst (v := 0) hx hb d_Bc_stock_21 (by decide) ?_
      obtain rfl := Option.some.inj hf
      subst hQ
      subst hAe
      refine W.widen (k := 0) (n := 0) (by decide +kernel) (by decide +kernel) ?_
      exact W.zret (v := 0) (ty := .boolean) hx hb hr (by decide) (fun t ht hW => ⟨⟨_, _, rfl, ⟨rfl, rfl⟩, by rw [ht]; exact hP, hD⟩, hS.F ht⟩) hS.2.2 d_Bc_stock_22
    · have c3 := fun h9 => c3 ((lg_cmp_lt _ _).mpr h9)
      have hf := op_e hf c3
      refine lv_lload_n hx hb d_Bc_stock_13 rfl (lv_at hl 2 rfl) ?_
      refine lv_ldc2 (v := 30000) hx hb hown (hts _ kK_8_135) d_Bc_stock_14 ?_
      refine W.lcmp hx hb d_Bc_stock_17 ?_
      refine lv_if_le (tgt := 23) hx hb d_Bc_stock_18 (by decide) (fun c4 => ?_) (fun c4 => ?_)
      · have c4 := (lg_cmp_le _ _).mp c4
        have hf := op_t hf c4
        refine lv_iload hx hb d_Bc_stock_23 (lv_at hl 3 rfl) ?_
        refine lv_if_lt (tgt := 35) hx hb d_Bc_stock_25 (by decide) (fun c5 => ?_) (fun c5 => ?_)
        · have hf := op_t hf c5
          refine lv_iconst (v := 0) hx hb d_Bc_stock_35 (by decide) ?_
          obtain rfl := Option.some.inj hf
          subst hQ
          subst hAe
          refine W.widen (k := 0) (n := 0) (by decide +kernel) (by decide +kernel) ?_
          exact W.zret (v := 0) (ty := .boolean) hx hb hr (by decide) (fun t ht hW => ⟨⟨_, _, rfl, ⟨rfl, rfl⟩, by rw [ht]; exact hP, hD⟩, hS.F ht⟩) hS.2.2 d_Bc_stock_36
        · have hf := op_e hf c5
          refine lv_iload hx hb d_Bc_stock_28 (lv_at hl 3 rfl) ?_
          refine lv_bipush (v := 20) hx hb d_Bc_stock_30 (by decide) ?_
          refine lv_icmp_le (tgt := 37) hx hb d_Bc_stock_32 (by decide) (fun c6 => ?_) (fun c6 => ?_)
          · have hf := op_t hf c6
            refine lv_aload_n hx hb d_Bc_stock_37 rfl (lv_at hl 0 rfl) ?_
            refine va_get (D := (dC, dI)) (ci := 8) (v := .ref (ad_bc 3)) (C := RX8) (T := TX8) (N := 12) hx hb hts in_X8 hown hK hP 0 rfl rfl 4 (by decide) (hts _ kF_8_34) (fun _ h9 => h9) rfl d_Bc_stock_38 ?_
            refine lv_iload_n hx hb d_Bc_stock_41 rfl (lv_at hl 1 rfl) ?_
            refine lv_iconst (v := 4) hx hb d_Bc_stock_42 (by decide) ?_
            refine lv_isub hx hb d_Bc_stock_43 ?_
            obtain ⟨hi7, hf⟩ := op_if hf
            refine va_aldq (f := rf 2) hx hb hK hP 4 6 rfl rfl (ix_in hi7) d_Bc_stock_44 ?_
            refine rw_s (a := hF d0) (by rw [hq0.1]; exact hFM.2.2.2.2.1 d0 hq0.2) ?_
            refine lv_astore (lv' := [(5, .ref (hF d0)), (0, .ref h_bc), (1, .int p1), (2, .long p2), (4, .int p3)]) hx hb d_Bc_stock_45 hl (by decide) rfl (fun ls hl => ?_)
            refine lv_aload hx hb d_Bc_stock_47 (lv_at hl 0 rfl) ?_
            refine lv_ifnonnull (tgt := 71) hx hb d_Bc_stock_49 (by decide) ?_
            refine lv_aload hx hb d_Bc_stock_71 (lv_at hl 0 rfl) ?_
            refine lv_lload_n hx hb d_Bc_stock_73 rfl (lv_at hl 3 rfl) ?_
            refine lv_l2i (v := p2.toInt32) hx hb d_Bc_stock_74 rfl ?_
            refine lv_iload hx hb d_Bc_stock_75 (lv_at hl 4 rfl) ?_
            obtain ⟨q8, hq8, hf⟩ := op_b hf
            have hPx := cv_P (ws' := (w_Bc_ h_bc ad_bc tC rf bc ++ (w_Sg_ (ad_bc 100) ad_sg tC sg ++ (w_Tr_ (ad_bc 104) ad_tr tC tr ++ (w_Tr_ (ad_bc 105) ad_tu tC tu ++ (w_Ff_ (ad_bc 103) ad_ff tC ff ++ (w_Pl_ (ad_bc 101) ad_pl tC pl ++ w_Lw_ (ad_bc 102) ad_lw tC lw)))))) ++ ((w_Sf_ (hF d0) (adF d0) tC (FS d0)) ++ (TL0))) hP (by simp only [List.append_assoc, List.nil_append])
            have hDx := cv_D (ws' := (w_Bc_ h_bc ad_bc tC rf bc ++ (w_Sg_ (ad_bc 100) ad_sg tC sg ++ (w_Tr_ (ad_bc 104) ad_tr tC tr ++ (w_Tr_ (ad_bc 105) ad_tu tC tu ++ (w_Ff_ (ad_bc 103) ad_ff tC ff ++ (w_Pl_ (ad_bc 101) ad_pl tC pl ++ w_Lw_ (ad_bc 102) ad_lw tC lw)))))) ++ ((w_Sf_ (hF d0) (adF d0) tC (FS d0)) ++ (TL0))) hD (by simp only [List.append_assoc, List.nil_append])
            obtain ⟨hPc, hDc, hFc⟩ := bk_cut0 hPx hDx hS hA
            refine wr_go (va_runV (As := [.int p2.toInt32, .int p3]) (rest := []) ⟨hx, hb, hml, hown, hts⟩ (m_Sf_add l dC dI tC (hF d0) (adF d0) (FS d0) p2.toInt32 p3 q8 hq8 _) (cwV 2 hts (gd_V kM_8_138 kI_Sf_add kV_Sf_add kZ_5 kC_Sf_add) rfl rfl rfl (by decide +kernel) ⟨(Nat.le_of_ble_eq_true rfl), (Nat.le_of_ble_eq_true rfl)⟩) ⟨wr_blind, va_recv hK hP (ci := 5) (q0 := 38) rfl rfl, wr_pre hK hPc hDc⟩ rfl rfl hl.1 rfl (lv_room (Nat.le_of_ble_eq_true rfl)) d_Bc_stock_77 ⟨(Nat.le_of_ble_eq_true rfl), (Nat.le_of_ble_eq_true rfl)⟩) hS hFc (fun r w1 H1 locs hw hP1 hD1 hk1 hS => ?_)
            obtain ⟨rfl, rfl⟩ := hw
            obtain ⟨hP, hD⟩ := bk_join0 (B1 := (w_Sf_ (hF d0) (adF d0) tC q8.2)) hPx hDx hk1 hP1 rfl
            clear hP1 hD1 hk1 hPc hDc hFc hPx hDx
            have hP := cv_P (ws' := (w_Bc_ h_bc ad_bc tC rf bc ++ (w_Sg_ (ad_bc 100) ad_sg tC sg ++ (w_Tr_ (ad_bc 104) ad_tr tC tr ++ (w_Tr_ (ad_bc 105) ad_tu tC tu ++ (w_Ff_ (ad_bc 103) ad_ff tC ff ++ (w_Pl_ (ad_bc 101) ad_pl tC pl ++ (w_Lw_ (ad_bc 102) ad_lw tC lw ++ (w_Sf_ (hF d0) (adF d0) tC q8.2 ++ TL0))))))))) hP (by simp only [List.append_assoc, List.nil_append])
            have hD := cv_D (ws' := (w_Bc_ h_bc ad_bc tC rf bc ++ (w_Sg_ (ad_bc 100) ad_sg tC sg ++ (w_Tr_ (ad_bc 104) ad_tr tC tr ++ (w_Tr_ (ad_bc 105) ad_tu tC tu ++ (w_Ff_ (ad_bc 103) ad_ff tC ff ++ (w_Pl_ (ad_bc 101) ad_pl tC pl ++ (w_Lw_ (ad_bc 102) ad_lw tC lw ++ (w_Sf_ (hF d0) (adF d0) tC q8.2 ++ TL0))))))))) hD (by simp only [List.append_assoc, List.nil_append])
            refine W.eq (g2 := F0 m 80 ls [.int q8.1]) rfl ?_
            refine lv_if_ne (tgt := 85) hx hb d_Bc_stock_80 (by decide) (fun c9 => ?_) (fun c9 => ?_)
            · have hf := op_e hf c9
              refine lv_aload_n hx hb d_Bc_stock_85 rfl (lv_at hl 1 rfl) ?_
              refine va_get (D := (dC, dI)) (ci := 8) (v := .ref (ad_bc 101)) (C := RX8) (T := TX8) (N := 12) hx hb hts in_X8 hown hK hP 0 rfl rfl 5 (by decide) (hts _ kF_8_41) (fun _ h9 => h9) rfl d_Bc_stock_86 ?_
              obtain ⟨q10, hq10, hf⟩ := op_b hf
              have hPx := cv_P (ws' := (w_Bc_ h_bc ad_bc tC rf bc ++ (w_Sg_ (ad_bc 100) ad_sg tC sg ++ (w_Tr_ (ad_bc 104) ad_tr tC tr ++ (w_Tr_ (ad_bc 105) ad_tu tC tu ++ w_Ff_ (ad_bc 103) ad_ff tC ff)))) ++ ((w_Pl_ (ad_bc 101) ad_pl tC pl) ++ (w_Lw_ (ad_bc 102) ad_lw tC lw ++ (w_Sf_ (hF d0) (adF d0) tC q8.2 ++ TL0)))) hP (by simp only [List.append_assoc, List.nil_append])
              have hDx := cv_D (ws' := (w_Bc_ h_bc ad_bc tC rf bc ++ (w_Sg_ (ad_bc 100) ad_sg tC sg ++ (w_Tr_ (ad_bc 104) ad_tr tC tr ++ (w_Tr_ (ad_bc 105) ad_tu tC tu ++ w_Ff_ (ad_bc 103) ad_ff tC ff)))) ++ ((w_Pl_ (ad_bc 101) ad_pl tC pl) ++ (w_Lw_ (ad_bc 102) ad_lw tC lw ++ (w_Sf_ (hF d0) (adF d0) tC q8.2 ++ TL0)))) hD (by simp only [List.append_assoc, List.nil_append])
              obtain ⟨hPc, hDc, hFc⟩ := bk_cut0 hPx hDx hS hA
              refine wr_go (va_runV (As := []) (rest := []) ⟨hx, hb, hml, hown, hts⟩ (m_Pl_clear l dC dI tC (ad_bc 101) ad_pl pl q10 hq10 _) (cwV 0 hts (gd_V kM_8_96 kI_Pl_clear kV_Pl_clear kZ_3 kC_Pl_clear) rfl rfl rfl (by decide +kernel) ⟨(Nat.le_of_ble_eq_true rfl), (Nat.le_of_ble_eq_true rfl)⟩) ⟨wr_blind, va_recv hK hP (ci := 3) (q0 := 21) rfl rfl, wr_pre hK hPc hDc⟩ rfl rfl hl.1 rfl (lv_room (Nat.le_of_ble_eq_true rfl)) d_Bc_stock_89 ⟨(Nat.le_of_ble_eq_true rfl), (Nat.le_of_ble_eq_true rfl)⟩) hS hFc (fun r w1 H1 locs hw hP1 hD1 hk1 hS => ?_)
              obtain ⟨rfl, rfl⟩ := hw
              obtain ⟨hP, hD⟩ := bk_join0 (B1 := (w_Pl_ (ad_bc 101) ad_pl tC q10.2)) hPx hDx hk1 hP1 rfl
              clear hP1 hD1 hk1 hPc hDc hFc hPx hDx
              have hP := cv_P (ws' := (w_Bc_ h_bc ad_bc tC rf bc ++ (w_Sg_ (ad_bc 100) ad_sg tC sg ++ (w_Tr_ (ad_bc 104) ad_tr tC tr ++ (w_Tr_ (ad_bc 105) ad_tu tC tu ++ (w_Ff_ (ad_bc 103) ad_ff tC ff ++ (w_Pl_ (ad_bc 101) ad_pl tC q10.2 ++ (w_Lw_ (ad_bc 102) ad_lw tC lw ++ (w_Sf_ (hF d0) (adF d0) tC q8.2 ++ TL0))))))))) hP (by simp only [List.append_assoc, List.nil_append])
              have hD := cv_D (ws' := (w_Bc_ h_bc ad_bc tC rf bc ++ (w_Sg_ (ad_bc 100) ad_sg tC sg ++ (w_Tr_ (ad_bc 104) ad_tr tC tr ++ (w_Tr_ (ad_bc 105) ad_tu tC tu ++ (w_Ff_ (ad_bc 103) ad_ff tC ff ++ (w_Pl_ (ad_bc 101) ad_pl tC q10.2 ++ (w_Lw_ (ad_bc 102) ad_lw tC lw ++ (w_Sf_ (hF d0) (adF d0) tC q8.2 ++ TL0))))))))) hD (by simp only [List.append_assoc, List.nil_append])
              refine W.eq (g2 := F0 m 92 ls []) rfl ?_
              refine lv_iconst (v := 1) hx hb d_Bc_stock_92 (by decide) ?_
              obtain rfl := Option.some.inj hf
              subst hQ
              subst hAe
              refine W.widen (k := 0) (n := 0) (by decide +kernel) (by decide +kernel) ?_
              exact W.zret (v := 1) (ty := .boolean) hx hb hr (by decide) (fun t ht hW => ⟨⟨_, _, rfl, ⟨rfl, rfl⟩, by rw [ht]; exact hP, hD⟩, hS.F ht⟩) hS.2.2 d_Bc_stock_93
            · have hf := op_t hf c9
              refine lv_iconst (v := 0) hx hb d_Bc_stock_83 (by decide) ?_
              obtain rfl := Option.some.inj hf
              subst hQ
              subst hAe
              refine W.widen (k := 0) (n := 0) (by decide +kernel) (by decide +kernel) ?_
              exact W.zret (v := 0) (ty := .boolean) hx hb hr (by decide) (fun t ht hW => ⟨⟨_, _, rfl, ⟨rfl, rfl⟩, by rw [ht]; exact hP, hD⟩, hS.F ht⟩) hS.2.2 d_Bc_stock_84
          · have hf := op_e hf c6
            refine lv_iconst (v := 0) hx hb d_Bc_stock_35 (by decide) ?_
            obtain rfl := Option.some.inj hf
            subst hQ
            subst hAe
            refine W.widen (k := 0) (n := 0) (by decide +kernel) (by decide +kernel) ?_
            exact W.zret (v := 0) (ty := .boolean) hx hb hr (by decide) (fun t ht hW => ⟨⟨_, _, rfl, ⟨rfl, rfl⟩, by rw [ht]; exact hP, hD⟩, hS.F ht⟩) hS.2.2 d_Bc_stock_36
      · have c4 := fun h9 => c4 ((lg_cmp_le _ _).mpr h9)
        have hf := op_e hf c4
        refine lv_iconst (v := 0) hx hb d_Bc_stock_21 (by decide) ?_
        obtain rfl := Option.some.inj hf
        subst hQ
        subst hAe
        refine W.widen (k := 0) (n := 0) (by decide +kernel) (by decide +kernel) ?_
        exact W.zret (v := 0) (ty := .boolean) hx hb hr (by decide) (fun t ht hW => ⟨⟨_, _, rfl, ⟨rfl, rfl⟩, by rw [ht]; exact hP, hD⟩, hS.F ht⟩) hS.2.2 d_Bc_stock_22
