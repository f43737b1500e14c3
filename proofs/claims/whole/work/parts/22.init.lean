/-! rows for what is made -/
section Made
variable {p : Program} {l : Launch} {e : Env} {R : Room} {s : State} {m : MethodId} {args : Array Value} {below : List Frame} {meth : Method} {c : Code} {H H0 : Heap} {locs : List Loc} {cells slots : Nat} {Q : State → Prop} {pc : Nat} {ls : Array Slot} {rest : List Value} {A : Nat → Prop} {ws : va_W} {cc : ByteArray} {D : va_G}
theorem xa_new (hexec : p.tables.exec = Jvm.exec) (hb : c.code = cc) {atype : ArrayType} {ty : FieldType} (harr : (Cond.arrayClass (newarray.typeOf atype)).before args s = true) (hty : newarray.typeOf atype = ty) {tC : Nat → ClassId} (hK : va_K D vwCl (TY tC) s) (t0 : Nat) (ht : (TY tC)[t0]? = some (tC t0, ty)) (hpr : ∀ (U : State) (cA : ClassId), va_RA U cA ty = (U.vm.findClass ("[" ++ ty.toString) = some cA))
    (hP : va_P D vwCl ws H) (hD : va_D A ws) (hS : va_S A H0 H locs) (hA : ∀ q, H0.size ≤ q → A q) {n : Int32} {N' : Nat} {a0 : vp_A} (ha : ∀ cA : ClassId, vp_cell cA a0 = arrV cA N' (fun _ => defaultValue ty)) (hn : ¬ n < 0) (hN : n.toNatClampNeg = N') (hbytes : N' * componentBytes ty ≤ 536870912) (hcells : cells + 1 ≤ R.cells) (hslots : slots + N' ≤ R.slots) (hdg : decode cc pc = .ok (.newarray atype, 2))
    (kk : ∀ (q : Nat) (H1 : Heap), va_P D vwCl (ws ++ [(q, .inl (tC t0, a0))]) H1 → va_D A (ws ++ [(q, .inl (tC t0, a0))]) → va_S A H0 H1 locs → W p l e R s m args below meth c H1 locs (cells + 1) (slots + N') Q (F0 m (pc + 2) ls (.ref q :: rest))) : W p l e R s m args below meth c H locs cells slots Q (F0 m pc ls (.int n :: rest)) := by
  refine va_newa hexec hb harr hty hK hP hD hS hA ha hn hN hbytes hcells hslots hdg (fun q cA H1 hK1 hP1 hD1 hS1 => ?_)
  have h1 := (hK.2 t0 _ ht).2
  have h2 := (hK1.2 7 (cA, ty) rfl).2
  rw [hpr] at h1 h2
  have e : cA = tC t0 := Option.some.inj (h2.symm.trans h1)
  subst e
  exact kk q H1 hP1 hD1 hS1
theorem xq_new (hexec : p.tables.exec = Jvm.exec) (hb : c.code = cc) {own C : String} {index : Nat} (hown : s.vm.findClass own = some m.cls) (hclink : (Cond.classLink own index C).before args s = true) (hover : va_AO C s) {tC : Nat → ClassId} (hK : va_K D vwCl (TY tC) s) (t0 : Nat) (ht : (TY tC)[t0]? = some (tC t0, .object C)) (hP : va_P D vwCl ws H) (hD : va_D A ws) (hS : va_S A H0 H locs) (hA : ∀ q, H0.size ≤ q → A q)
    {n : Int32} {N' : Nat} (hn : ¬ n < 0) (hN : n.toNatClampNeg = N') (hbytes : N' * 4 ≤ 536870912) (hcells : cells + 1 ≤ R.cells) (hslots : slots + N' ≤ R.slots) (hdg : decode cc pc = .ok (.anewarray index, 3))
    (kk : ∀ (q : Nat) (H1 : Heap), va_P D vwCl (ws ++ [(q, .inl (tC t0, N', .inr (.inr (.inr (.inr (fun _ => none))))))]) H1 → va_D A (ws ++ [(q, .inl (tC t0, N', .inr (.inr (.inr (.inr (fun _ => none))))))]) → va_S A H0 H1 locs →
      W p l e R s m args below meth c H1 locs (cells + 1) (slots + N') Q (F0 m (pc + 3) ls (.ref q :: rest))) : W p l e R s m args below meth c H locs cells slots Q (F0 m pc ls (.int n :: rest)) := by
  refine va_newq hexec hb hown hclink hover hK hP hD hS hA hn hN hbytes hcells hslots hdg (fun q cA H1 hK1 hP1 hD1 hS1 => ?_)
  obtain ⟨_, _, _, _, _, h1⟩ := (hK.2 t0 _ ht).2
  obtain ⟨_, _, _, _, _, h2⟩ := (hK1.2 7 (cA, .object C) rfl).2
  have e : cA = tC t0 := Option.some.inj (h2.symm.trans h1)
  subst e
  exact kk q H1 hP1 hD1 hS1
end Made
theorem xv_int (n : Nat) (cA : ClassId) : vp_cell cA (n, .inl (fun _ => 0)) = arrV cA n (fun _ => defaultValue .int) := rfl
theorem xv_char (n : Nat) (cA : ClassId) : vp_cell cA (n, .inl (fun _ => 0)) = arrV cA n (fun _ => defaultValue .char) := rfl
theorem xv_boolean (n : Nat) (cA : ClassId) : vp_cell cA (n, .inl (fun _ => 0)) = arrV cA n (fun _ => defaultValue .boolean) := rfl
theorem xv_long (n : Nat) (cA : ClassId) : vp_cell cA (n, .inr (.inl (fun _ => 0))) = arrV cA n (fun _ => defaultValue .long) := rfl
def S0 : MS := (fun _ => 0, fun _ _ => 0, fun _ _ => 0)
def rm_Sg_init : Room := { frames := 1, cells := 1, slots := 40, locals := 40 }
set_option maxHeartbeats 4000000 in
set_option maxRecDepth 100000 in
theorem m_Sg_init (l : Launch) (dC : Nat → ClassId) (dI : Nat → Nat → Nat) (tC : Nat → ClassId) (h : Nat) (sz : Nat) : Met l y_Sg_init w_Sg_init rm_Sg_init (wrP (dC, dI) tC [(h, .inr (6, [.null, .int 0]))] sz [.ref h]) (wrQ (dC, dI) [(h, .inr (6, [.null, .int 0]))] sz (fun r w => r = none ∧ ∃ ad : Nat → Nat, w = w_Sg_ h ad tC S0)) 1 40 (va_A [(h, .inr (6, [.null, .int 0]))] sz) := by
  refine Met.ofW (cc := c_Sg_init) (maxL := 1) (ret := none) (by decide) rfl ?_
  intro p e s m args below meth c s₁ B hml hv
  obtain ⟨hav, hsz, hP, hK, hD0⟩ := hv
  have hx := B.exec
  have hb := B.bytes
  have hr := B.returns
  have hts : ∀ w ∈ gw, w.before args s = true := fun w h => atoms_spec (ws := w_Sg_init) B.pre w (List.mem_cons_of_mem _ h)
  have hown : s.vm.findClass RX6 = some m.cls := findClass_of_methodNamed B.named
  have hlocks := B.notSynchronized
  have hin : meth.name = "<init>" := (name_of_methodNamed B.named B.method).1
  subst hsz
  have hD := hD0.self (sz := s.heap.size)
  obtain ⟨A, hAe⟩ : ∃ z, z = va_A [(h, .inr (6, [.null, .int 0]))] s.heap.size := ⟨_, rfl⟩
  rw [← hAe] at hD
  have hA : ∀ q : Nat, s.heap.size ≤ q → A q := fun q h => by rw [hAe]; exact Or.inr h
  have hS : va_S A s.heap s.heap [] := va_S.rf
  refine q_w (R := rm_Sg_init) (fun Q hQ => ?_)
  refine en_w (av := [.ref h]) hav (Nat.le_of_ble_eq_true rfl) (fun ls hl => ?_)
  have hl : lv_has ls 1 [(0, .ref h)] := hl
  refine lv_aload_n hx hb d_Sg_init_0 rfl (lv_at hl 0 rfl) ?_
  refine W.objInit hx hb hown (hts _ kM_6_3) (hts _ kI_obj) (hts _ kC_obj) rfl (by rw [hml]; exact hl.1) rfl d_Sg_init_1 (Nat.le_of_ble_eq_true rfl) (Nat.le_of_ble_eq_true rfl) ?_
  refine W.eq (g2 := F0 m 4 ls []) rfl ?_
  refine lv_aload_n hx hb d_Sg_init_4 rfl (lv_at hl 0 rfl) ?_
  refine lv_bipush (v := 40) hx hb d_Sg_init_5 (by decide) ?_
  refine xa_new (atype := .char) (ty := .char) (n := 40) (N' := 40) (a0 := (40, .inl (fun _ => 0))) hx hb (hts _ kA_char) rfl hK 2 rfl (fun _ _ => rfl) hP hD hS hA (xv_char _) (by decide +kernel) (by decide +kernel) (by decide +kernel) (by decide +kernel) (by decide +kernel) d_Sg_init_7 (fun q0 H hP hD hS => ?_)
  have hP : va_P (dC, dI) vwCl [(h, .inr (6, [.null, .int 0])), (q0, .inl (tC 2, 40, .inl (fun _ => 0)))] H := hP
  have hD : va_D A [(h, .inr (6, [.null, .int 0])), (q0, .inl (tC 2, 40, .inl (fun _ => 0)))] := hD
  refine va_putF (D := (dC, dI)) (ci := 6) (v := .ref q0) (ty := .array .char) (C := RX6) (T := TX6) (N := 2) hx hb hts in_X6 tyX6 tyX6_ok nmX6 hown hK hP hD hS 0 (fs := [.null, .int 0]) rfl rfl 0 (by decide) (hts _ kF_6_9) (fun _ h9 => h9) rfl hin rfl (by decide +kernel) rfl rfl (Nat.le_of_ble_eq_true rfl) d_Sg_init_9 (fun H locs hP hD hS => ?_)
  have hP : va_P (dC, dI) vwCl [(h, .inr (6, [.ref q0, .int 0])), (q0, .inl (tC 2, 40, .inl (fun _ => 0)))] H := hP
  have hD : va_D A [(h, .inr (6, [.ref q0, .int 0])), (q0, .inl (tC 2, 40, .inl (fun _ => 0)))] := hD
  refine W.widen (k := 1) (n := 40) (by decide +kernel) (by decide +kernel) ?_
  subst hQ
  subst hAe
  exact W.vret hx hb hr (fun t ht hW => ⟨⟨none, [(h, .inr (6, [.ref q0, .int 0])), (q0, .inl (tC 2, 40, .inl (fun _ => 0)))], rfl, ⟨rfl, ⟨fun j => [q0].getD j 0, rfl⟩⟩, by rw [ht]; exact hP, hD⟩, hS.F ht⟩) hS.2.2 d_Sg_init_12
def rm_Pl_init : Room := { frames := 1, cells := 7, slots := 420, locals := 40 }
set_option maxHeartbeats 4000000 in
set_option maxRecDepth 100000 in
theorem m_Pl_init (l : Launch) (dC : Nat → ClassId) (dI : Nat → Nat → Nat) (tC : Nat → ClassId) (h : Nat) (sz : Nat) : Met l y_Pl_init w_Pl_init rm_Pl_init (wrP (dC, dI) tC [(h, .inr (3, [.null, .null, .null, .null, .null, .null, .null, .int 0, .int 0, .int 0, .int 0, .int 0]))] sz [.ref h]) (wrQ (dC, dI) [(h, .inr (3, [.null, .null, .null, .null, .null, .null, .null, .int 0, .int 0, .int 0, .int 0, .int 0]))] sz (fun r w => r = none ∧ ∃ ad : Nat → Nat, w = w_Pl_ h ad tC S0)) 7 420 (va_A [(h, .inr (3, [.null, .null, .null, .null, .null, .null, .null, .int 0, .int 0, .int 0, .int 0, .int 0]))] sz) := by
  refine Met.ofW (cc := c_Pl_init) (maxL := 1) (ret := none) (by decide) rfl ?_
  intro p e s m args below meth c s₁ B hml hv
  obtain ⟨hav, hsz, hP, hK, hD0⟩ := hv
  have hx := B.exec
  have hb := B.bytes
  have hr := B.returns
  have hts : ∀ w ∈ gw, w.before args s = true := fun w h => atoms_spec (ws := w_Pl_init) B.pre w (List.mem_cons_of_mem _ h)
  have hown : s.vm.findClass RX3 = some m.cls := findClass_of_methodNamed B.named
  have hlocks := B.notSynchronized
  have hin : meth.name = "<init>" := (name_of_methodNamed B.named B.method).1
  subst hsz
  have hD := hD0.self (sz := s.heap.size)
  obtain ⟨A, hAe⟩ : ∃ z, z = va_A [(h, .inr (3, [.null, .null, .null, .null, .null, .null, .null, .int 0, .int 0, .int 0, .int 0, .int 0]))] s.heap.size := ⟨_, rfl⟩
  rw [← hAe] at hD
  have hA : ∀ q : Nat, s.heap.size ≤ q → A q := fun q h => by rw [hAe]; exact Or.inr h
  have hS : va_S A s.heap s.heap [] := va_S.rf
  refine q_w (R := rm_Pl_init) (fun Q hQ => ?_)
  refine en_w (av := [.ref h]) hav (Nat.le_of_ble_eq_true rfl) (fun ls hl => ?_)
  have hl : lv_has ls 1 [(0, .ref h)] := hl
  refine lv_aload_n hx hb d_Pl_init_0 rfl (lv_at hl 0 rfl) ?_
  refine W.objInit hx hb hown (hts _ kM_3_3) (hts _ kI_obj) (hts _ kC_obj) rfl (by rw [hml]; exact hl.1) rfl d_Pl_init_1 (Nat.le_of_ble_eq_true rfl) (Nat.le_of_ble_eq_true rfl) ?_
  refine W.eq (g2 := F0 m 4 ls []) rfl ?_
  refine lv_aload_n hx hb d_Pl_init_4 rfl (lv_at hl 0 rfl) ?_
  refine lv_bipush (v := 60) hx hb d_Pl_init_5 (by decide) ?_
  refine xa_new (atype := .int) (ty := .int) (n := 60) (N' := 60) (a0 := (60, .inl (fun _ => 0))) hx hb (hts _ kA_int) rfl hK 0 rfl (fun _ _ => rfl) hP hD hS hA (xv_int _) (by decide +kernel) (by decide +kernel) (by decide +kernel) (by decide +kernel) (by decide +kernel) d_Pl_init_7 (fun q0 H hP hD hS => ?_)
  have hP : va_P (dC, dI) vwCl [(h, .inr (3, [.null, .null, .null, .null, .null, .null, .null, .int 0, .int 0, .int 0, .int 0, .int 0])), (q0, .inl (tC 0, 60, .inl (fun _ => 0)))] H := hP
  have hD : va_D A [(h, .inr (3, [.null, .null, .null, .null, .null, .null, .null, .int 0, .int 0, .int 0, .int 0, .int 0])), (q0, .inl (tC 0, 60, .inl (fun _ => 0)))] := hD
  refine va_putF (D := (dC, dI)) (ci := 3) (v := .ref q0) (ty := .array .int) (C := RX3) (T := TX3) (N := 12) hx hb hts in_X3 tyX3 tyX3_ok nmX3 hown hK hP hD hS 0 (fs := [.null, .null, .null, .null, .null, .null, .null, .int 0, .int 0, .int 0, .int 0, .int 0]) rfl rfl 0 (by decide) (hts _ kF_3_9) (fun _ h9 => h9) rfl hin rfl (by decide +kernel) rfl rfl (Nat.le_of_ble_eq_true rfl) d_Pl_init_9 (fun H locs hP hD hS => ?_)
  have hP : va_P (dC, dI) vwCl [(h, .inr (3, [.ref q0, .null, .null, .null, .null, .null, .null, .int 0, .int 0, .int 0, .int 0, .int 0])), (q0, .inl (tC 0, 60, .inl (fun _ => 0)))] H := hP
  have hD : va_D A [(h, .inr (3, [.ref q0, .null, .null, .null, .null, .null, .null, .int 0, .int 0, .int 0, .int 0, .int 0])), (q0, .inl (tC 0, 60, .inl (fun _ => 0)))] := hD
  refine lv_aload_n hx hb d_Pl_init_12 rfl (lv_at hl 0 rfl) ?_
  refine lv_bipush (v := 60) hx hb d_Pl_init_13 (by decide) ?_
  refine xa_new (atype := .int) (ty := .int) (n := 60) (N' := 60) (a0 := (60, .inl (fun _ => 0))) hx hb (hts _ kA_int) rfl hK 0 rfl (fun _ _ => rfl) hP hD hS hA (xv_int _) (by decide +kernel) (by decide +kernel) (by decide +kernel) (by decide +kernel) (by decide +kernel) d_Pl_init_15 (fun q1 H hP hD hS => ?_)
  have hP : va_P (dC, dI) vwCl [(h, .inr (3, [.ref q0, .null, .null, .null, .null, .null, .null, .int 0, .int 0, .int 0, .int 0, .int 0])), (q0, .inl (tC 0, 60, .inl (fun _ => 0))), (q1, .inl (tC 0, 60, .inl (fun _ => 0)))] H := hP
  have hD : va_D A [(h, .inr (3, [.ref q0, .null, .null, .null, .null, .null, .null, .int 0, .int 0, .int 0, .int 0, .int 0])), (q0, .inl (tC 0, 60, .inl (fun _ => 0))), (q1, .inl (tC 0, 60, .inl (fun _ => 0)))] := hD
  refine va_putF (D := (dC, dI)) (ci := 3) (v := .ref q1) (ty := .array .int) (C := RX3) (T := TX3) (N := 12) hx hb hts in_X3 tyX3 tyX3_ok nmX3 hown hK hP hD hS 0 (fs := [.ref q0, .null, .null, .null, .null, .null, .null, .int 0, .int 0, .int 0, .int 0, .int 0]) rfl rfl 1 (by decide) (hts _ kF_3_15) (fun _ h9 => h9) rfl hin rfl (by decide +kernel) rfl rfl (Nat.le_of_ble_eq_true rfl) d_Pl_init_17 (fun H locs hP hD hS => ?_)
  have hP : va_P (dC, dI) vwCl [(h, .inr (3, [.ref q0, .ref q1, .null, .null, .null, .null, .null, .int 0, .int 0, .int 0, .int 0, .int 0])), (q0, .inl (tC 0, 60, .inl (fun _ => 0))), (q1, .inl (tC 0, 60, .inl (fun _ => 0)))] H := hP
  have hD : va_D A [(h, .inr (3, [.ref q0, .ref q1, .null, .null, .null, .null, .null, .int 0, .int 0, .int 0, .int 0, .int 0])), (q0, .inl (tC 0, 60, .inl (fun _ => 0))), (q1, .inl (tC 0, 60, .inl (fun _ => 0)))] := hD
  refine lv_aload_n hx hb d_Pl_init_20 rfl (lv_at hl 0 rfl) ?_
  refine lv_bipush (v := 60) hx hb d_Pl_init_21 (by decide) ?_
  refine xa_new (atype := .int) (ty := .int) (n := 60) (N' := 60) (a0 := (60, .inl (fun _ => 0))) hx hb (hts _ kA_int) rfl hK 0 rfl (fun _ _ => rfl) hP hD hS hA (xv_int _) (by decide +kernel) (by decide +kernel) (by decide +kernel) (by decide +kernel) (by decide +kernel) d_Pl_init_23 (fun q2 H hP hD hS => ?_)
  have hP : va_P (dC, dI) vwCl [(h, .inr (3, [.ref q0, .ref q1, .null, .null, .null, .null, .null, .int 0, .int 0, .int 0, .int 0, .int 0])), (q0, .inl (tC 0, 60, .inl (fun _ => 0))), (q1, .inl (tC 0, 60, .inl (fun _ => 0))), (q2, .inl (tC 0, 60, .inl (fun _ => 0)))] H := hP
  have hD : va_D A [(h, .inr (3, [.ref q0, .ref q1, .null, .null, .null, .null, .null, .int 0, .int 0, .int 0, .int 0, .int 0])), (q0, .inl (tC 0, 60, .inl (fun _ => 0))), (q1, .inl (tC 0, 60, .inl (fun _ => 0))), (q2, .inl (tC 0, 60, .inl (fun _ => 0)))] := hD
  refine va_putF (D := (dC, dI)) (ci := 3) (v := .ref q2) (ty := .array .int) (C := RX3) (T := TX3) (N := 12) hx hb hts in_X3 tyX3 tyX3_ok nmX3 hown hK hP hD hS 0 (fs := [.ref q0, .ref q1, .null, .null, .null, .null, .null, .int 0, .int 0, .int 0, .int 0, .int 0]) rfl rfl 2 (by decide) (hts _ kF_3_18) (fun _ h9 => h9) rfl hin rfl (by decide +kernel) rfl rfl (Nat.le_of_ble_eq_true rfl) d_Pl_init_25 (fun H locs hP hD hS => ?_)
  have hP : va_P (dC, dI) vwCl [(h, .inr (3, [.ref q0, .ref q1, .ref q2, .null, .null, .null, .null, .int 0, .int 0, .int 0, .int 0, .int 0])), (q0, .inl (tC 0, 60, .inl (fun _ => 0))), (q1, .inl (tC 0, 60, .inl (fun _ => 0))), (q2, .inl (tC 0, 60, .inl (fun _ => 0)))] H := hP
  have hD : va_D A [(h, .inr (3, [.ref q0, .ref q1, .ref q2, .null, .null, .null, .null, .int 0, .int 0, .int 0, .int 0, .int 0])), (q0, .inl (tC 0, 60, .inl (fun _ => 0))), (q1, .inl (tC 0, 60, .inl (fun _ => 0))), (q2, .inl (tC 0, 60, .inl (fun _ => 0)))] := hD
  refine lv_aload_n hx hb d_Pl_init_28 rfl (lv_at hl 0 rfl) ?_
  refine lv_bipush (v := 60) hx hb d_Pl_init_29 (by decide) ?_
  refine xa_new (atype := .int) (ty := .int) (n := 60) (N' := 60) (a0 := (60, .inl (fun _ => 0))) hx hb (hts _ kA_int) rfl hK 0 rfl (fun _ _ => rfl) hP hD hS hA (xv_int _) (by decide +kernel) (by decide +kernel) (by decide +kernel) (by decide +kernel) (by decide +kernel) d_Pl_init_31 (fun q3 H hP hD hS => ?_)
  have hP : va_P (dC, dI) vwCl [(h, .inr (3, [.ref q0, .ref q1, .ref q2, .null, .null, .null, .null, .int 0, .int 0, .int 0, .int 0, .int 0])), (q0, .inl (tC 0, 60, .inl (fun _ => 0))), (q1, .inl (tC 0, 60, .inl (fun _ => 0))), (q2, .inl (tC 0, 60, .inl (fun _ => 0))), (q3, .inl (tC 0, 60, .inl (fun _ => 0)))] H := hP
  have hD : va_D A [(h, .inr (3, [.ref q0, .ref q1, .ref q2, .null, .null, .null, .null, .int 0, .int 0, .int 0, .int 0, .int 0])), (q0, .inl (tC 0, 60, .inl (fun _ => 0))), (q1, .inl (tC 0, 60, .inl (fun _ => 0))), (q2, .inl (tC 0, 60, .inl (fun _ => 0))), (q3, .inl (tC 0, 60, .inl (fun _ => 0)))] := hD
  refine va_putF (D := (dC, dI)) (ci := 3) (v := .ref q3) (ty := .array .int) (C := RX3) (T := TX3) (N := 12) hx hb hts in_X3 tyX3 tyX3_ok nmX3 hown hK hP hD hS 0 (fs := [.ref q0, .ref q1, .ref q2, .null, .null, .null, .null, .int 0, .int 0, .int 0, .int 0, .int 0]) rfl rfl 3 (by decide) (hts _ kF_3_21) (fun _ h9 => h9) rfl hin rfl (by decide +kernel) rfl rfl (Nat.le_of_ble_eq_true rfl) d_Pl_init_33 (fun H locs hP hD hS => ?_)
  have hP : va_P (dC, dI) vwCl [(h, .inr (3, [.ref q0, .ref q1, .ref q2, .ref q3, .null, .null, .null, .int 0, .int 0, .int 0, .int 0, .int 0])), (q0, .inl (tC 0, 60, .inl (fun _ => 0))), (q1, .inl (tC 0, 60, .inl (fun _ => 0))), (q2, .inl (tC 0, 60, .inl (fun _ => 0))), (q3, .inl (tC 0, 60, .inl (fun _ => 0)))] H := hP
  have hD : va_D A [(h, .inr (3, [.ref q0, .ref q1, .ref q2, .ref q3, .null, .null, .null, .int 0, .int 0, .int 0, .int 0, .int 0])), (q0, .inl (tC 0, 60, .inl (fun _ => 0))), (q1, .inl (tC 0, 60, .inl (fun _ => 0))), (q2, .inl (tC 0, 60, .inl (fun _ => 0))), (q3, .inl (tC 0, 60, .inl (fun _ => 0)))] := hD
  refine lv_aload_n hx hb d_Pl_init_36 rfl (lv_at hl 0 rfl) ?_
  refine lv_bipush (v := 60) hx hb d_Pl_init_37 (by decide) ?_
  refine xa_new (atype := .int) (ty := .int) (n := 60) (N' := 60) (a0 := (60, .inl (fun _ => 0))) hx hb (hts _ kA_int) rfl hK 0 rfl (fun _ _ => rfl) hP hD hS hA (xv_int _) (by decide +kernel) (by decide +kernel) (by decide +kernel) (by decide +kernel) (by decide +kernel) d_Pl_init_39 (fun q4 H hP hD hS => ?_)
  have hP : va_P (dC, dI) vwCl [(h, .inr (3, [.ref q0, .ref q1, .ref q2, .ref q3, .null, .null, .null, .int 0, .int 0, .int 0, .int 0, .int 0])), (q0, .inl (tC 0, 60, .inl (fun _ => 0))), (q1, .inl (tC 0, 60, .inl (fun _ => 0))), (q2, .inl (tC 0, 60, .inl (fun _ => 0))), (q3, .inl (tC 0, 60, .inl (fun _ => 0))), (q4, .inl (tC 0, 60, .inl (fun _ => 0)))] H := hP
  have hD : va_D A [(h, .inr (3, [.ref q0, .ref q1, .ref q2, .ref q3, .null, .null, .null, .int 0, .int 0, .int 0, .int 0, .int 0])), (q0, .inl (tC 0, 60, .inl (fun _ => 0))), (q1, .inl (tC 0, 60, .inl (fun _ => 0))), (q2, .inl (tC 0, 60, .inl (fun _ => 0))), (q3, .inl (tC 0, 60, .inl (fun _ => 0))), (q4, .inl (tC 0, 60, .inl (fun _ => 0)))] := hD
  refine va_putF (D := (dC, dI)) (ci := 3) (v := .ref q4) (ty := .array .int) (C := RX3) (T := TX3) (N := 12) hx hb hts in_X3 tyX3 tyX3_ok nmX3 hown hK hP hD hS 0 (fs := [.ref q0, .ref q1, .ref q2, .ref q3, .null, .null, .null, .int 0, .int 0, .int 0, .int 0, .int 0]) rfl rfl 4 (by decide) (hts _ kF_3_24) (fun _ h9 => h9) rfl hin rfl (by decide +kernel) rfl rfl (Nat.le_of_ble_eq_true rfl) d_Pl_init_41 (fun H locs hP hD hS => ?_)
  have hP : va_P (dC, dI) vwCl [(h, .inr (3, [.ref q0, .ref q1, .ref q2, .ref q3, .ref q4, .null, .null, .int 0, .int 0, .int 0, .int 0, .int 0])), (q0, .inl (tC 0, 60, .inl (fun _ => 0))), (q1, .inl (tC 0, 60, .inl (fun _ => 0))), (q2, .inl (tC 0, 60, .inl (fun _ => 0))), (q3, .inl (tC 0, 60, .inl (fun _ => 0))), (q4, .inl (tC 0, 60, .inl (fun _ => 0)))] H := hP
  have hD : va_D A [(h, .inr (3, [.ref q0, .ref q1, .ref q2, .ref q3, .ref q4, .null, .null, .int 0, .int 0, .int 0, .int 0, .int 0])), (q0, .inl (tC 0, 60, .inl (fun _ => 0))), (q1, .inl (tC 0, 60, .inl (fun _ => 0))), (q2, .inl (tC 0, 60, .inl (fun _ => 0))), (q3, .inl (tC 0, 60, .inl (fun _ => 0))), (q4, .inl (tC 0, 60, .inl (fun _ => 0)))] := hD
  refine lv_aload_n hx hb d_Pl_init_44 rfl (lv_at hl 0 rfl) ?_
  refine lv_bipush (v := 60) hx hb d_Pl_init_45 (by decide) ?_
  refine xa_new (atype := .int) (ty := .int) (n := 60) (N' := 60) (a0 := (60, .inl (fun _ => 0))) hx hb (hts _ kA_int) rfl hK 0 rfl (fun _ _ => rfl) hP hD hS hA (xv_int _) (by decide +kernel) (by decide +kernel) (by decide +kernel) (by decide +kernel) (by decide +kernel) d_Pl_init_47 (fun q5 H hP hD hS => ?_)
  have hP : va_P (dC, dI) vwCl [(h, .inr (3, [.ref q0, .ref q1, .ref q2, .ref q3, .ref q4, .null, .null, .int 0, .int 0, .int 0, .int 0, .int 0])), (q0, .inl (tC 0, 60, .inl (fun _ => 0))), (q1, .inl (tC 0, 60, .inl (fun _ => 0))), (q2, .inl (tC 0, 60, .inl (fun _ => 0))), (q3, .inl (tC 0, 60, .inl (fun _ => 0))), (q4, .inl (tC 0, 60, .inl (fun _ => 0))), (q5, .inl (tC 0, 60, .inl (fun _ => 0)))] H := hP
  have hD : va_D A [(h, .inr (3, [.ref q0, .ref q1, .ref q2, .ref q3, .ref q4, .null, .null, .int 0, .int 0, .int 0, .int 0, .int 0])), (q0, .inl (tC 0, 60, .inl (fun _ => 0))), (q1, .inl (tC 0, 60, .inl (fun _ => 0))), (q2, .inl (tC 0, 60, .inl (fun _ => 0))), (q3, .inl (tC 0, 60, .inl (fun _ => 0))), (q4, .inl (tC 0, 60, .inl (fun _ => 0))), (q5, .inl (tC 0, 60, .inl (fun _ => 0)))] := hD
  refine va_putF (D := (dC, dI)) (ci := 3) (v := .ref q5) (ty := .array .int) (C := RX3) (T := TX3) (N := 12) hx hb hts in_X3 tyX3 tyX3_ok nmX3 hown hK hP hD hS 0 (fs := [.ref q0, .ref q1, .ref q2, .ref q3, .ref q4, .null, .null, .int 0, .int 0, .int 0, .int 0, .int 0]) rfl rfl 5 (by decide) (hts _ kF_3_27) (fun _ h9 => h9) rfl hin rfl (by decide +kernel) rfl rfl (Nat.le_of_ble_eq_true rfl) d_Pl_init_49 (fun H locs hP hD hS => ?_)
  have hP : va_P (dC, dI) vwCl [(h, .inr (3, [.ref q0, .ref q1, .ref q2, .ref q3, .ref q4, .ref q5, .null, .int 0, .int 0, .int 0, .int 0, .int 0])), (q0, .inl (tC 0, 60, .inl (fun _ => 0))), (q1, .inl (tC 0, 60, .inl (fun _ => 0))), (q2, .inl (tC 0, 60, .inl (fun _ => 0))), (q3, .inl (tC 0, 60, .inl (fun _ => 0))), (q4, .inl (tC 0, 60, .inl (fun _ => 0))), (q5, .inl (tC 0, 60, .inl (fun _ => 0)))] H := hP
  have hD : va_D A [(h, .inr (3, [.ref q0, .ref q1, .ref q2, .ref q3, .ref q4, .ref q5, .null, .int 0, .int 0, .int 0, .int 0, .int 0])), (q0, .inl (tC 0, 60, .inl (fun _ => 0))), (q1, .inl (tC 0, 60, .inl (fun _ => 0))), (q2, .inl (tC 0, 60, .inl (fun _ => 0))), (q3, .inl (tC 0, 60, .inl (fun _ => 0))), (q4, .inl (tC 0, 60, .inl (fun _ => 0))), (q5, .inl (tC 0, 60, .inl (fun _ => 0)))] := hD
  refine lv_aload_n hx hb d_Pl_init_52 rfl (lv_at hl 0 rfl) ?_
  refine lv_bipush (v := 60) hx hb d_Pl_init_53 (by decide) ?_
  refine xa_new (atype := .int) (ty := .int) (n := 60) (N' := 60) (a0 := (60, .inl (fun _ => 0))) hx hb (hts _ kA_int) rfl hK 0 rfl (fun _ _ => rfl) hP hD hS hA (xv_int _) (by decide +kernel) (by decide +kernel) (by decide +kernel) (by decide +kernel) (by decide +kernel) d_Pl_init_55 (fun q6 H hP hD hS => ?_)
  have hP : va_P (dC, dI) vwCl [(h, .inr (3, [.ref q0, .ref q1, .ref q2, .ref q3, .ref q4, .ref q5, .null, .int 0, .int 0, .int 0, .int 0, .int 0])), (q0, .inl (tC 0, 60, .inl (fun _ => 0))), (q1, .inl (tC 0, 60, .inl (fun _ => 0))), (q2, .inl (tC 0, 60, .inl (fun _ => 0))), (q3, .inl (tC 0, 60, .inl (fun _ => 0))), (q4, .inl (tC 0, 60, .inl (fun _ => 0))), (q5, .inl (tC 0, 60, .inl (fun _ => 0))), (q6, .inl (tC 0, 60, .inl (fun _ => 0)))] H := hP
  have hD : va_D A [(h, .inr (3, [.ref q0, .ref q1, .ref q2, .ref q3, .ref q4, .ref q5, .null, .int 0, .int 0, .int 0, .int 0, .int 0])), (q0, .inl (tC 0, 60, .inl (fun _ => 0))), (q1, .inl (tC 0, 60, .inl (fun _ => 0))), (q2, .inl (tC 0, 60, .inl (fun _ => 0))), (q3, .inl (tC 0, 60, .inl (fun _ => 0))), (q4, .inl (tC 0, 60, .inl (fun _ => 0))), (q5, .inl (tC 0, 60, .inl (fun _ => 0))), (q6, .inl (tC 0, 60, .inl (fun _ => 0)))] := hD
  refine va_putF (D := (dC, dI)) (ci := 3) (v := .ref q6) (ty := .array .int) (C := RX3) (T := TX3) (N := 12) hx hb hts in_X3 tyX3 tyX3_ok nmX3 hown hK hP hD hS 0 (fs := [.ref q0, .ref q1, .ref q2, .ref q3, .ref q4, .ref q5, .null, .int 0, .int 0, .int 0, .int 0, .int 0]) rfl rfl 6 (by decide) (hts _ kF_3_30) (fun _ h9 => h9) rfl hin rfl (by decide +kernel) rfl rfl (Nat.le_of_ble_eq_true rfl) d_Pl_init_57 (fun H locs hP hD hS => ?_)
  have hP : va_P (dC, dI) vwCl [(h, .inr (3, [.ref q0, .ref q1, .ref q2, .ref q3, .ref q4, .ref q5, .ref q6, .int 0, .int 0, .int 0, .int 0, .int 0])), (q0, .inl (tC 0, 60, .inl (fun _ => 0))), (q1, .inl (tC 0, 60, .inl (fun _ => 0))), (q2, .inl (tC 0, 60, .inl (fun _ => 0))), (q3, .inl (tC 0, 60, .inl (fun _ => 0))), (q4, .inl (tC 0, 60, .inl (fun _ => 0))), (q5, .inl (tC 0, 60, .inl (fun _ => 0))), (q6, .inl (tC 0, 60, .inl (fun _ => 0)))] H := hP
  have hD : va_D A [(h, .inr (3, [.ref q0, .ref q1, .ref q2, .ref q3, .ref q4, .ref q5, .ref q6, .int 0, .int 0, .int 0, .int 0, .int 0])), (q0, .inl (tC 0, 60, .inl (fun _ => 0))), (q1, .inl (tC 0, 60, .inl (fun _ => 0))), (q2, .inl (tC 0, 60, .inl (fun _ => 0))), (q3, .inl (tC 0, 60, .inl (fun _ => 0))), (q4, .inl (tC 0, 60, .inl (fun _ => 0))), (q5, .inl (tC 0, 60, .inl (fun _ => 0))), (q6, .inl (tC 0, 60, .inl (fun _ => 0)))] := hD
  refine W.widen (k := 7) (n := 420) (by decide +kernel) (by decide +kernel) ?_
  subst hQ
  subst hAe
  exact W.vret hx hb hr (fun t ht hW => ⟨⟨none, [(h, .inr (3, [.ref q0, .ref q1, .ref q2, .ref q3, .ref q4, .ref q5, .ref q6, .int 0, .int 0, .int 0, .int 0, .int 0])), (q0, .inl (tC 0, 60, .inl (fun _ => 0))), (q1, .inl (tC 0, 60, .inl (fun _ => 0))), (q2, .inl (tC 0, 60, .inl (fun _ => 0))), (q3, .inl (tC 0, 60, .inl (fun _ => 0))), (q4, .inl (tC 0, 60, .inl (fun _ => 0))), (q5, .inl (tC 0, 60, .inl (fun _ => 0))), (q6, .inl (tC 0, 60, .inl (fun _ => 0)))], rfl, ⟨rfl, ⟨fun j => [q0, q1, q2, q3, q4, q5, q6].getD j 0, rfl⟩⟩, by rw [ht]; exact hP, hD⟩, hS.F ht⟩) hS.2.2 d_Pl_init_60
def rm_Lw_init : Room := { frames := 1, cells := 8, slots := 550, locals := 40 }
set_option maxHeartbeats 4000000 in
set_option maxRecDepth 100000 in
theorem m_Lw_init (l : Launch) (dC : Nat → ClassId) (dI : Nat → Nat → Nat) (tC : Nat → ClassId) (h : Nat) (sz : Nat) : Met l y_Lw_init w_Lw_init rm_Lw_init (wrP (dC, dI) tC [(h, .inr (1, [.null, .null, .null, .null, .null, .null, .null, .null, .int 0, .int 0, .int 0]))] sz [.ref h]) (wrQ (dC, dI) [(h, .inr (1, [.null, .null, .null, .null, .null, .null, .null, .null, .int 0, .int 0, .int 0]))] sz (fun r w => r = none ∧ ∃ ad : Nat → Nat, w = w_Lw_ h ad tC S0)) 8 550 (va_A [(h, .inr (1, [.null, .null, .null, .null, .null, .null, .null, .null, .int 0, .int 0, .int 0]))] sz) := by
  refine Met.ofW (cc := c_Lw_init) (maxL := 1) (ret := none) (by decide) rfl ?_
  intro p e s m args below meth c s₁ B hml hv
  obtain ⟨hav, hsz, hP, hK, hD0⟩ := hv
  have hx := B.exec
  have hb := B.bytes
  have hr := B.returns
  have hts : ∀ w ∈ gw, w.before args s = true := fun w h => atoms_spec (ws := w_Lw_init) B.pre w (List.mem_cons_of_mem _ h)
  have hown : s.vm.findClass RX1 = some m.cls := findClass_of_methodNamed B.named
  have hlocks := B.notSynchronized
  have hin : meth.name = "<init>" := (name_of_methodNamed B.named B.method).1
  subst hsz
  have hD := hD0.self (sz := s.heap.size)
  obtain ⟨A, hAe⟩ : ∃ z, z = va_A [(h, .inr (1, [.null, .null, .null, .null, .null, .null, .null, .null, .int 0, .int 0, .int 0]))] s.heap.size := ⟨_, rfl⟩
  rw [← hAe] at hD
  have hA : ∀ q : Nat, s.heap.size ≤ q → A q := fun q h => by rw [hAe]; exact Or.inr h
  have hS : va_S A s.heap s.heap [] := va_S.rf
  refine q_w (R := rm_Lw_init) (fun Q hQ => ?_)
  refine en_w (av := [.ref h]) hav (Nat.le_of_ble_eq_true rfl) (fun ls hl => ?_)
  have hl : lv_has ls 1 [(0, .ref h)] := hl
  refine lv_aload_n hx hb d_Lw_init_0 rfl (lv_at hl 0 rfl) ?_
  refine W.objInit hx hb hown (hts _ kM_1_3) (hts _ kI_obj) (hts _ kC_obj) rfl (by rw [hml]; exact hl.1) rfl d_Lw_init_1 (Nat.le_of_ble_eq_true rfl) (Nat.le_of_ble_eq_true rfl) ?_
  refine W.eq (g2 := F0 m 4 ls []) rfl ?_
  refine lv_aload_n hx hb d_Lw_init_4 rfl (lv_at hl 0 rfl) ?_
  refine lv_sipush (v := 256) hx hb d_Lw_init_5 (by decide) ?_
  refine xa_new (atype := .int) (ty := .int) (n := 256) (N' := 256) (a0 := (256, .inl (fun _ => 0))) hx hb (hts _ kA_int) rfl hK 0 rfl (fun _ _ => rfl) hP hD hS hA (xv_int _) (by decide +kernel) (by decide +kernel) (by decide +kernel) (by decide +kernel) (by decide +kernel) d_Lw_init_8 (fun q0 H hP hD hS => ?_)
  have hP : va_P (dC, dI) vwCl [(h, .inr (1, [.null, .null, .null, .null, .null, .null, .null, .null, .int 0, .int 0, .int 0])), (q0, .inl (tC 0, 256, .inl (fun _ => 0)))] H := hP
  have hD : va_D A [(h, .inr (1, [.null, .null, .null, .null, .null, .null, .null, .null, .int 0, .int 0, .int 0])), (q0, .inl (tC 0, 256, .inl (fun _ => 0)))] := hD
  refine va_putF (D := (dC, dI)) (ci := 1) (v := .ref q0) (ty := .array .int) (C := RX1) (T := TX1) (N := 11) hx hb hts in_X1 tyX1 tyX1_ok nmX1 hown hK hP hD hS 0 (fs := [.null, .null, .null, .null, .null, .null, .null, .null, .int 0, .int 0, .int 0]) rfl rfl 0 (by decide) (hts _ kF_1_11) (fun _ h9 => h9) rfl hin rfl (by decide +kernel) rfl rfl (Nat.le_of_ble_eq_true rfl) d_Lw_init_10 (fun H locs hP hD hS => ?_)
  have hP : va_P (dC, dI) vwCl [(h, .inr (1, [.ref q0, .null, .null, .null, .null, .null, .null, .null, .int 0, .int 0, .int 0])), (q0, .inl (tC 0, 256, .inl (fun _ => 0)))] H := hP
  have hD : va_D A [(h, .inr (1, [.ref q0, .null, .null, .null, .null, .null, .null, .null, .int 0, .int 0, .int 0])), (q0, .inl (tC 0, 256, .inl (fun _ => 0)))] := hD
  refine lv_aload_n hx hb d_Lw_init_13 rfl (lv_at hl 0 rfl) ?_
  refine lv_sipush (v := 256) hx hb d_Lw_init_14 (by decide) ?_
  refine xa_new (atype := .int) (ty := .int) (n := 256) (N' := 256) (a0 := (256, .inl (fun _ => 0))) hx hb (hts _ kA_int) rfl hK 0 rfl (fun _ _ => rfl) hP hD hS hA (xv_int _) (by decide +kernel) (by decide +kernel) (by decide +kernel) (by decide +kernel) (by decide +kernel) d_Lw_init_17 (fun q1 H hP hD hS => ?_)
  have hP : va_P (dC, dI) vwCl [(h, .inr (1, [.ref q0, .null, .null, .null, .null, .null, .null, .null, .int 0, .int 0, .int 0])), (q0, .inl (tC 0, 256, .inl (fun _ => 0))), (q1, .inl (tC 0, 256, .inl (fun _ => 0)))] H := hP
  have hD : va_D A [(h, .inr (1, [.ref q0, .null, .null, .null, .null, .null, .null, .null, .int 0, .int 0, .int 0])), (q0, .inl (tC 0, 256, .inl (fun _ => 0))), (q1, .inl (tC 0, 256, .inl (fun _ => 0)))] := hD
  refine va_putF (D := (dC, dI)) (ci := 1) (v := .ref q1) (ty := .array .int) (C := RX1) (T := TX1) (N := 11) hx hb hts in_X1 tyX1 tyX1_ok nmX1 hown hK hP hD hS 0 (fs := [.ref q0, .null, .null, .null, .null, .null, .null, .null, .int 0, .int 0, .int 0]) rfl rfl 1 (by decide) (hts _ kF_1_15) (fun _ h9 => h9) rfl hin rfl (by decide +kernel) rfl rfl (Nat.le_of_ble_eq_true rfl) d_Lw_init_19 (fun H locs hP hD hS => ?_)
  have hP : va_P (dC, dI) vwCl [(h, .inr (1, [.ref q0, .ref q1, .null, .null, .null, .null, .null, .null, .int 0, .int 0, .int 0])), (q0, .inl (tC 0, 256, .inl (fun _ => 0))), (q1, .inl (tC 0, 256, .inl (fun _ => 0)))] H := hP
  have hD : va_D A [(h, .inr (1, [.ref q0, .ref q1, .null, .null, .null, .null, .null, .null, .int 0, .int 0, .int 0])), (q0, .inl (tC 0, 256, .inl (fun _ => 0))), (q1, .inl (tC 0, 256, .inl (fun _ => 0)))] := hD
  refine lv_aload_n hx hb d_Lw_init_22 rfl (lv_at hl 0 rfl) ?_
  refine lv_iconst (v := 3) hx hb d_Lw_init_23 (by decide) ?_
  refine xa_new (atype := .int) (ty := .int) (n := 3) (N' := 3) (a0 := (3, .inl (fun _ => 0))) hx hb (hts _ kA_int) rfl hK 0 rfl (fun _ _ => rfl) hP hD hS hA (xv_int _) (by decide +kernel) (by decide +kernel) (by decide +kernel) (by decide +kernel) (by decide +kernel) d_Lw_init_24 (fun q2 H hP hD hS => ?_)
  have hP : va_P (dC, dI) vwCl [(h, .inr (1, [.ref q0, .ref q1, .null, .null, .null, .null, .null, .null, .int 0, .int 0, .int 0])), (q0, .inl (tC 0, 256, .inl (fun _ => 0))), (q1, .inl (tC 0, 256, .inl (fun _ => 0))), (q2, .inl (tC 0, 3, .inl (fun _ => 0)))] H := hP
  have hD : va_D A [(h, .inr (1, [.ref q0, .ref q1, .null, .null, .null, .null, .null, .null, .int 0, .int 0, .int 0])), (q0, .inl (tC 0, 256, .inl (fun _ => 0))), (q1, .inl (tC 0, 256, .inl (fun _ => 0))), (q2, .inl (tC 0, 3, .inl (fun _ => 0)))] := hD
  refine va_putF (D := (dC, dI)) (ci := 1) (v := .ref q2) (ty := .array .int) (C := RX1) (T := TX1) (N := 11) hx hb hts in_X1 tyX1 tyX1_ok nmX1 hown hK hP hD hS 0 (fs := [.ref q0, .ref q1, .null, .null, .null, .null, .null, .null, .int 0, .int 0, .int 0]) rfl rfl 2 (by decide) (hts _ kF_1_18) (fun _ h9 => h9) rfl hin rfl (by decide +kernel) rfl rfl (Nat.le_of_ble_eq_true rfl) d_Lw_init_26 (fun H locs hP hD hS => ?_)
  have hP : va_P (dC, dI) vwCl [(h, .inr (1, [.ref q0, .ref q1, .ref q2, .null, .null, .null, .null, .null, .int 0, .int 0, .int 0])), (q0, .inl (tC 0, 256, .inl (fun _ => 0))), (q1, .inl (tC 0, 256, .inl (fun _ => 0))), (q2, .inl (tC 0, 3, .inl (fun _ => 0)))] H := hP
  have hD : va_D A [(h, .inr (1, [.ref q0, .ref q1, .ref q2, .null, .null, .null, .null, .null, .int 0, .int 0, .int 0])), (q0, .inl (tC 0, 256, .inl (fun _ => 0))), (q1, .inl (tC 0, 256, .inl (fun _ => 0))), (q2, .inl (tC 0, 3, .inl (fun _ => 0)))] := hD
  refine lv_aload_n hx hb d_Lw_init_29 rfl (lv_at hl 0 rfl) ?_
  refine lv_iconst (v := 3) hx hb d_Lw_init_30 (by decide) ?_
  refine xa_new (atype := .int) (ty := .int) (n := 3) (N' := 3) (a0 := (3, .inl (fun _ => 0))) hx hb (hts _ kA_int) rfl hK 0 rfl (fun _ _ => rfl) hP hD hS hA (xv_int _) (by decide +kernel) (by decide +kernel) (by decide +kernel) (by decide +kernel) (by decide +kernel) d_Lw_init_31 (fun q3 H hP hD hS => ?_)
  have hP : va_P (dC, dI) vwCl [(h, .inr (1, [.ref q0, .ref q1, .ref q2, .null, .null, .null, .null, .null, .int 0, .int 0, .int 0])), (q0, .inl (tC 0, 256, .inl (fun _ => 0))), (q1, .inl (tC 0, 256, .inl (fun _ => 0))), (q2, .inl (tC 0, 3, .inl (fun _ => 0))), (q3, .inl (tC 0, 3, .inl (fun _ => 0)))] H := hP
  have hD : va_D A [(h, .inr (1, [.ref q0, .ref q1, .ref q2, .null, .null, .null, .null, .null, .int 0, .int 0, .int 0])), (q0, .inl (tC 0, 256, .inl (fun _ => 0))), (q1, .inl (tC 0, 256, .inl (fun _ => 0))), (q2, .inl (tC 0, 3, .inl (fun _ => 0))), (q3, .inl (tC 0, 3, .inl (fun _ => 0)))] := hD
  refine va_putF (D := (dC, dI)) (ci := 1) (v := .ref q3) (ty := .array .int) (C := RX1) (T := TX1) (N := 11) hx hb hts in_X1 tyX1 tyX1_ok nmX1 hown hK hP hD hS 0 (fs := [.ref q0, .ref q1, .ref q2, .null, .null, .null, .null, .null, .int 0, .int 0, .int 0]) rfl rfl 3 (by decide) (hts _ kF_1_21) (fun _ h9 => h9) rfl hin rfl (by decide +kernel) rfl rfl (Nat.le_of_ble_eq_true rfl) d_Lw_init_33 (fun H locs hP hD hS => ?_)
  have hP : va_P (dC, dI) vwCl [(h, .inr (1, [.ref q0, .ref q1, .ref q2, .ref q3, .null, .null, .null, .null, .int 0, .int 0, .int 0])), (q0, .inl (tC 0, 256, .inl (fun _ => 0))), (q1, .inl (tC 0, 256, .inl (fun _ => 0))), (q2, .inl (tC 0, 3, .inl (fun _ => 0))), (q3, .inl (tC 0, 3, .inl (fun _ => 0)))] H := hP
  have hD : va_D A [(h, .inr (1, [.ref q0, .ref q1, .ref q2, .ref q3, .null, .null, .null, .null, .int 0, .int 0, .int 0])), (q0, .inl (tC 0, 256, .inl (fun _ => 0))), (q1, .inl (tC 0, 256, .inl (fun _ => 0))), (q2, .inl (tC 0, 3, .inl (fun _ => 0))), (q3, .inl (tC 0, 3, .inl (fun _ => 0)))] := hD
  refine lv_aload_n hx hb d_Lw_init_36 rfl (lv_at hl 0 rfl) ?_
  refine lv_bipush (v := 8) hx hb d_Lw_init_37 (by decide) ?_
  refine xa_new (atype := .int) (ty := .int) (n := 8) (N' := 8) (a0 := (8, .inl (fun _ => 0))) hx hb (hts _ kA_int) rfl hK 0 rfl (fun _ _ => rfl) hP hD hS hA (xv_int _) (by decide +kernel) (by decide +kernel) (by decide +kernel) (by decide +kernel) (by decide +kernel) d_Lw_init_39 (fun q4 H hP hD hS => ?_)
  have hP : va_P (dC, dI) vwCl [(h, .inr (1, [.ref q0, .ref q1, .ref q2, .ref q3, .null, .null, .null, .null, .int 0, .int 0, .int 0])), (q0, .inl (tC 0, 256, .inl (fun _ => 0))), (q1, .inl (tC 0, 256, .inl (fun _ => 0))), (q2, .inl (tC 0, 3, .inl (fun _ => 0))), (q3, .inl (tC 0, 3, .inl (fun _ => 0))), (q4, .inl (tC 0, 8, .inl (fun _ => 0)))] H := hP
  have hD : va_D A [(h, .inr (1, [.ref q0, .ref q1, .ref q2, .ref q3, .null, .null, .null, .null, .int 0, .int 0, .int 0])), (q0, .inl (tC 0, 256, .inl (fun _ => 0))), (q1, .inl (tC 0, 256, .inl (fun _ => 0))), (q2, .inl (tC 0, 3, .inl (fun _ => 0))), (q3, .inl (tC 0, 3, .inl (fun _ => 0))), (q4, .inl (tC 0, 8, .inl (fun _ => 0)))] := hD
  refine va_putF (D := (dC, dI)) (ci := 1) (v := .ref q4) (ty := .array .int) (C := RX1) (T := TX1) (N := 11) hx hb hts in_X1 tyX1 tyX1_ok nmX1 hown hK hP hD hS 0 (fs := [.ref q0, .ref q1, .ref q2, .ref q3, .null, .null, .null, .null, .int 0, .int 0, .int 0]) rfl rfl 4 (by decide) (hts _ kF_1_24) (fun _ h9 => h9) rfl hin rfl (by decide +kernel) rfl rfl (Nat.le_of_ble_eq_true rfl) d_Lw_init_41 (fun H locs hP hD hS => ?_)
  have hP : va_P (dC, dI) vwCl [(h, .inr (1, [.ref q0, .ref q1, .ref q2, .ref q3, .ref q4, .null, .null, .null, .int 0, .int 0, .int 0])), (q0, .inl (tC 0, 256, .inl (fun _ => 0))), (q1, .inl (tC 0, 256, .inl (fun _ => 0))), (q2, .inl (tC 0, 3, .inl (fun _ => 0))), (q3, .inl (tC 0, 3, .inl (fun _ => 0))), (q4, .inl (tC 0, 8, .inl (fun _ => 0)))] H := hP
  have hD : va_D A [(h, .inr (1, [.ref q0, .ref q1, .ref q2, .ref q3, .ref q4, .null, .null, .null, .int 0, .int 0, .int 0])), (q0, .inl (tC 0, 256, .inl (fun _ => 0))), (q1, .inl (tC 0, 256, .inl (fun _ => 0))), (q2, .inl (tC 0, 3, .inl (fun _ => 0))), (q3, .inl (tC 0, 3, .inl (fun _ => 0))), (q4, .inl (tC 0, 8, .inl (fun _ => 0)))] := hD
  refine lv_aload_n hx hb d_Lw_init_44 rfl (lv_at hl 0 rfl) ?_
  refine lv_bipush (v := 8) hx hb d_Lw_init_45 (by decide) ?_
  refine xa_new (atype := .int) (ty := .int) (n := 8) (N' := 8) (a0 := (8, .inl (fun _ => 0))) hx hb (hts _ kA_int) rfl hK 0 rfl (fun _ _ => rfl) hP hD hS hA (xv_int _) (by decide +kernel) (by decide +kernel) (by decide +kernel) (by decide +kernel) (by decide +kernel) d_Lw_init_47 (fun q5 H hP hD hS => ?_)
  have hP : va_P (dC, dI) vwCl [(h, .inr (1, [.ref q0, .ref q1, .ref q2, .ref q3, .ref q4, .null, .null, .null, .int 0, .int 0, .int 0])), (q0, .inl (tC 0, 256, .inl (fun _ => 0))), (q1, .inl (tC 0, 256, .inl (fun _ => 0))), (q2, .inl (tC 0, 3, .inl (fun _ => 0))), (q3, .inl (tC 0, 3, .inl (fun _ => 0))), (q4, .inl (tC 0, 8, .inl (fun _ => 0))), (q5, .inl (tC 0, 8, .inl (fun _ => 0)))] H := hP
  have hD : va_D A [(h, .inr (1, [.ref q0, .ref q1, .ref q2, .ref q3, .ref q4, .null, .null, .null, .int 0, .int 0, .int 0])), (q0, .inl (tC 0, 256, .inl (fun _ => 0))), (q1, .inl (tC 0, 256, .inl (fun _ => 0))), (q2, .inl (tC 0, 3, .inl (fun _ => 0))), (q3, .inl (tC 0, 3, .inl (fun _ => 0))), (q4, .inl (tC 0, 8, .inl (fun _ => 0))), (q5, .inl (tC 0, 8, .inl (fun _ => 0)))] := hD
  refine va_putF (D := (dC, dI)) (ci := 1) (v := .ref q5) (ty := .array .int) (C := RX1) (T := TX1) (N := 11) hx hb hts in_X1 tyX1 tyX1_ok nmX1 hown hK hP hD hS 0 (fs := [.ref q0, .ref q1, .ref q2, .ref q3, .ref q4, .null, .null, .null, .int 0, .int 0, .int 0]) rfl rfl 5 (by decide) (hts _ kF_1_27) (fun _ h9 => h9) rfl hin rfl (by decide +kernel) rfl rfl (Nat.le_of_ble_eq_true rfl) d_Lw_init_49 (fun H locs hP hD hS => ?_)
  have hP : va_P (dC, dI) vwCl [(h, .inr (1, [.ref q0, .ref q1, .ref q2, .ref q3, .ref q4, .ref q5, .null, .null, .int 0, .int 0, .int 0])), (q0, .inl (tC 0, 256, .inl (fun _ => 0))), (q1, .inl (tC 0, 256, .inl (fun _ => 0))), (q2, .inl (tC 0, 3, .inl (fun _ => 0))), (q3, .inl (tC 0, 3, .inl (fun _ => 0))), (q4, .inl (tC 0, 8, .inl (fun _ => 0))), (q5, .inl (tC 0, 8, .inl (fun _ => 0)))] H := hP
  have hD : va_D A [(h, .inr (1, [.ref q0, .ref q1, .ref q2, .ref q3, .ref q4, .ref q5, .null, .null, .int 0, .int 0, .int 0])), (q0, .inl (tC 0, 256, .inl (fun _ => 0))), (q1, .inl (tC 0, 256, .inl (fun _ => 0))), (q2, .inl (tC 0, 3, .inl (fun _ => 0))), (q3, .inl (tC 0, 3, .inl (fun _ => 0))), (q4, .inl (tC 0, 8, .inl (fun _ => 0))), (q5, .inl (tC 0, 8, .inl (fun _ => 0)))] := hD
  refine lv_aload_n hx hb d_Lw_init_52 rfl (lv_at hl 0 rfl) ?_
  refine lv_bipush (v := 8) hx hb d_Lw_init_53 (by decide) ?_
  refine xa_new (atype := .int) (ty := .int) (n := 8) (N' := 8) (a0 := (8, .inl (fun _ => 0))) hx hb (hts _ kA_int) rfl hK 0 rfl (fun _ _ => rfl) hP hD hS hA (xv_int _) (by decide +kernel) (by decide +kernel) (by decide +kernel) (by decide +kernel) (by decide +kernel) d_Lw_init_55 (fun q6 H hP hD hS => ?_)
  have hP : va_P (dC, dI) vwCl [(h, .inr (1, [.ref q0, .ref q1, .ref q2, .ref q3, .ref q4, .ref q5, .null, .null, .int 0, .int 0, .int 0])), (q0, .inl (tC 0, 256, .inl (fun _ => 0))), (q1, .inl (tC 0, 256, .inl (fun _ => 0))), (q2, .inl (tC 0, 3, .inl (fun _ => 0))), (q3, .inl (tC 0, 3, .inl (fun _ => 0))), (q4, .inl (tC 0, 8, .inl (fun _ => 0))), (q5, .inl (tC 0, 8, .inl (fun _ => 0))), (q6, .inl (tC 0, 8, .inl (fun _ => 0)))] H := hP
  have hD : va_D A [(h, .inr (1, [.ref q0, .ref q1, .ref q2, .ref q3, .ref q4, .ref q5, .null, .null, .int 0, .int 0, .int 0])), (q0, .inl (tC 0, 256, .inl (fun _ => 0))), (q1, .inl (tC 0, 256, .inl (fun _ => 0))), (q2, .inl (tC 0, 3, .inl (fun _ => 0))), (q3, .inl (tC 0, 3, .inl (fun _ => 0))), (q4, .inl (tC 0, 8, .inl (fun _ => 0))), (q5, .inl (tC 0, 8, .inl (fun _ => 0))), (q6, .inl (tC 0, 8, .inl (fun _ => 0)))] := hD
  refine va_putF (D := (dC, dI)) (ci := 1) (v := .ref q6) (ty := .array .int) (C := RX1) (T := TX1) (N := 11) hx hb hts in_X1 tyX1 tyX1_ok nmX1 hown hK hP hD hS 0 (fs := [.ref q0, .ref q1, .ref q2, .ref q3, .ref q4, .ref q5, .null, .null, .int 0, .int 0, .int 0]) rfl rfl 6 (by decide) (hts _ kF_1_30) (fun _ h9 => h9) rfl hin rfl (by decide +kernel) rfl rfl (Nat.le_of_ble_eq_true rfl) d_Lw_init_57 (fun H locs hP hD hS => ?_)
  have hP : va_P (dC, dI) vwCl [(h, .inr (1, [.ref q0, .ref q1, .ref q2, .ref q3, .ref q4, .ref q5, .ref q6, .null, .int 0, .int 0, .int 0])), (q0, .inl (tC 0, 256, .inl (fun _ => 0))), (q1, .inl (tC 0, 256, .inl (fun _ => 0))), (q2, .inl (tC 0, 3, .inl (fun _ => 0))), (q3, .inl (tC 0, 3, .inl (fun _ => 0))), (q4, .inl (tC 0, 8, .inl (fun _ => 0))), (q5, .inl (tC 0, 8, .inl (fun _ => 0))), (q6, .inl (tC 0, 8, .inl (fun _ => 0)))] H := hP
  have hD : va_D A [(h, .inr (1, [.ref q0, .ref q1, .ref q2, .ref q3, .ref q4, .ref q5, .ref q6, .null, .int 0, .int 0, .int 0])), (q0, .inl (tC 0, 256, .inl (fun _ => 0))), (q1, .inl (tC 0, 256, .inl (fun _ => 0))), (q2, .inl (tC 0, 3, .inl (fun _ => 0))), (q3, .inl (tC 0, 3, .inl (fun _ => 0))), (q4, .inl (tC 0, 8, .inl (fun _ => 0))), (q5, .inl (tC 0, 8, .inl (fun _ => 0))), (q6, .inl (tC 0, 8, .inl (fun _ => 0)))] := hD
  refine lv_aload_n hx hb d_Lw_init_60 rfl (lv_at hl 0 rfl) ?_
  refine lv_bipush (v := 8) hx hb d_Lw_init_61 (by decide) ?_
  refine xa_new (atype := .int) (ty := .int) (n := 8) (N' := 8) (a0 := (8, .inl (fun _ => 0))) hx hb (hts _ kA_int) rfl hK 0 rfl (fun _ _ => rfl) hP hD hS hA (xv_int _) (by decide +kernel) (by decide +kernel) (by decide +kernel) (by decide +kernel) (by decide +kernel) d_Lw_init_63 (fun q7 H hP hD hS => ?_)
  have hP : va_P (dC, dI) vwCl [(h, .inr (1, [.ref q0, .ref q1, .ref q2, .ref q3, .ref q4, .ref q5, .ref q6, .null, .int 0, .int 0, .int 0])), (q0, .inl (tC 0, 256, .inl (fun _ => 0))), (q1, .inl (tC 0, 256, .inl (fun _ => 0))), (q2, .inl (tC 0, 3, .inl (fun _ => 0))), (q3, .inl (tC 0, 3, .inl (fun _ => 0))), (q4, .inl (tC 0, 8, .inl (fun _ => 0))), (q5, .inl (tC 0, 8, .inl (fun _ => 0))), (q6, .inl (tC 0, 8, .inl (fun _ => 0))), (q7, .inl (tC 0, 8, .inl (fun _ => 0)))] H := hP
  have hD : va_D A [(h, .inr (1, [.ref q0, .ref q1, .ref q2, .ref q3, .ref q4, .ref q5, .ref q6, .null, .int 0, .int 0, .int 0])), (q0, .inl (tC 0, 256, .inl (fun _ => 0))), (q1, .inl (tC 0, 256, .inl (fun _ => 0))), (q2, .inl (tC 0, 3, .inl (fun _ => 0))), (q3, .inl (tC 0, 3, .inl (fun _ => 0))), (q4, .inl (tC 0, 8, .inl (fun _ => 0))), (q5, .inl (tC 0, 8, .inl (fun _ => 0))), (q6, .inl (tC 0, 8, .inl (fun _ => 0))), (q7, .inl (tC 0, 8, .inl (fun _ => 0)))] := hD
  refine va_putF (D := (dC, dI)) (ci := 1) (v := .ref q7) (ty := .array .int) (C := RX1) (T := TX1) (N := 11) hx hb hts in_X1 tyX1 tyX1_ok nmX1 hown hK hP hD hS 0 (fs := [.ref q0, .ref q1, .ref q2, .ref q3, .ref q4, .ref q5, .ref q6, .null, .int 0, .int 0, .int 0]) rfl rfl 7 (by decide) (hts _ kF_1_33) (fun _ h9 => h9) rfl hin rfl (by decide +kernel) rfl rfl (Nat.le_of_ble_eq_true rfl) d_Lw_init_65 (fun H locs hP hD hS => ?_)
  have hP : va_P (dC, dI) vwCl [(h, .inr (1, [.ref q0, .ref q1, .ref q2, .ref q3, .ref q4, .ref q5, .ref q6, .ref q7, .int 0, .int 0, .int 0])), (q0, .inl (tC 0, 256, .inl (fun _ => 0))), (q1, .inl (tC 0, 256, .inl (fun _ => 0))), (q2, .inl (tC 0, 3, .inl (fun _ => 0))), (q3, .inl (tC 0, 3, .inl (fun _ => 0))), (q4, .inl (tC 0, 8, .inl (fun _ => 0))), (q5, .inl (tC 0, 8, .inl (fun _ => 0))), (q6, .inl (tC 0, 8, .inl (fun _ => 0))), (q7, .inl (tC 0, 8, .inl (fun _ => 0)))] H := hP
  have hD : va_D A [(h, .inr (1, [.ref q0, .ref q1, .ref q2, .ref q3, .ref q4, .ref q5, .ref q6, .ref q7, .int 0, .int 0, .int 0])), (q0, .inl (tC 0, 256, .inl (fun _ => 0))), (q1, .inl (tC 0, 256, .inl (fun _ => 0))), (q2, .inl (tC 0, 3, .inl (fun _ => 0))), (q3, .inl (tC 0, 3, .inl (fun _ => 0))), (q4, .inl (tC 0, 8, .inl (fun _ => 0))), (q5, .inl (tC 0, 8, .inl (fun _ => 0))), (q6, .inl (tC 0, 8, .inl (fun _ => 0))), (q7, .inl (tC 0, 8, .inl (fun _ => 0)))] := hD
  refine W.widen (k := 8) (n := 550) (by decide +kernel) (by decide +kernel) ?_
  subst hQ
  subst hAe
  exact W.vret hx hb hr (fun t ht hW => ⟨⟨none, [(h, .inr (1, [.ref q0, .ref q1, .ref q2, .ref q3, .ref q4, .ref q5, .ref q6, .ref q7, .int 0, .int 0, .int 0])), (q0, .inl (tC 0, 256, .inl (fun _ => 0))), (q1, .inl (tC 0, 256, .inl (fun _ => 0))), (q2, .inl (tC 0, 3, .inl (fun _ => 0))), (q3, .inl (tC 0, 3, .inl (fun _ => 0))), (q4, .inl (tC 0, 8, .inl (fun _ => 0))), (q5, .inl (tC 0, 8, .inl (fun _ => 0))), (q6, .inl (tC 0, 8, .inl (fun _ => 0))), (q7, .inl (tC 0, 8, .inl (fun _ => 0)))], rfl, ⟨rfl, ⟨fun j => [q0, q1, q2, q3, q4, q5, q6, q7].getD j 0, rfl⟩⟩, by rw [ht]; exact hP, hD⟩, hS.F ht⟩) hS.2.2 d_Lw_init_68
def rm_Ff_init : Room := { frames := 1, cells := 1, slots := 3, locals := 40 }
set_option maxHeartbeats 4000000 in
set_option maxRecDepth 100000 in
theorem m_Ff_init (l : Launch) (dC : Nat → ClassId) (dI : Nat → Nat → Nat) (tC : Nat → ClassId) (h : Nat) (sz : Nat) : Met l y_Ff_init w_Ff_init rm_Ff_init (wrP (dC, dI) tC [(h, .inr (0, [.null]))] sz [.ref h]) (wrQ (dC, dI) [(h, .inr (0, [.null]))] sz (fun r w => r = none ∧ ∃ ad : Nat → Nat, w = w_Ff_ h ad tC S0)) 1 3 (va_A [(h, .inr (0, [.null]))] sz) := by
  refine Met.ofW (cc := c_Ff_init) (maxL := 1) (ret := none) (by decide) rfl ?_
  intro p e s m args below meth c s₁ B hml hv
  obtain ⟨hav, hsz, hP, hK, hD0⟩ := hv
  have hx := B.exec
  have hb := B.bytes
  have hr := B.returns
  have hts : ∀ w ∈ gw, w.before args s = true := fun w h => atoms_spec (ws := w_Ff_init) B.pre w (List.mem_cons_of_mem _ h)
  have hown : s.vm.findClass RX0 = some m.cls := findClass_of_methodNamed B.named
  have hlocks := B.notSynchronized
  have hin : meth.name = "<init>" := (name_of_methodNamed B.named B.method).1
  subst hsz
  have hD := hD0.self (sz := s.heap.size)
  obtain ⟨A, hAe⟩ : ∃ z, z = va_A [(h, .inr (0, [.null]))] s.heap.size := ⟨_, rfl⟩
  rw [← hAe] at hD
  have hA : ∀ q : Nat, s.heap.size ≤ q → A q := fun q h => by rw [hAe]; exact Or.inr h
  have hS : va_S A s.heap s.heap [] := va_S.rf
  refine q_w (R := rm_Ff_init) (fun Q hQ => ?_)
  refine en_w (av := [.ref h]) hav (Nat.le_of_ble_eq_true rfl) (fun ls hl => ?_)
  have hl : lv_has ls 1 [(0, .ref h)] := hl
  refine lv_aload_n hx hb d_Ff_init_0 rfl (lv_at hl 0 rfl) ?_
  refine W.objInit hx hb hown (hts _ kM_0_3) (hts _ kI_obj) (hts _ kC_obj) rfl (by rw [hml]; exact hl.1) rfl d_Ff_init_1 (Nat.le_of_ble_eq_true rfl) (Nat.le_of_ble_eq_true rfl) ?_
  refine W.eq (g2 := F0 m 4 ls []) rfl ?_
  refine lv_aload_n hx hb d_Ff_init_4 rfl (lv_at hl 0 rfl) ?_
  refine lv_iconst (v := 3) hx hb d_Ff_init_5 (by decide) ?_
  refine xa_new (atype := .int) (ty := .int) (n := 3) (N' := 3) (a0 := (3, .inl (fun _ => 0))) hx hb (hts _ kA_int) rfl hK 0 rfl (fun _ _ => rfl) hP hD hS hA (xv_int _) (by decide +kernel) (by decide +kernel) (by decide +kernel) (by decide +kernel) (by decide +kernel) d_Ff_init_6 (fun q0 H hP hD hS => ?_)
  have hP : va_P (dC, dI) vwCl [(h, .inr (0, [.null])), (q0, .inl (tC 0, 3, .inl (fun _ => 0)))] H := hP
  have hD : va_D A [(h, .inr (0, [.null])), (q0, .inl (tC 0, 3, .inl (fun _ => 0)))] := hD
  refine va_putF (D := (dC, dI)) (ci := 0) (v := .ref q0) (ty := .array .int) (C := RX0) (T := TX0) (N := 1) hx hb hts in_X0 tyX0 tyX0_ok nmX0 hown hK hP hD hS 0 (fs := [.null]) rfl rfl 0 (by decide) (hts _ kF_0_9) (fun _ h9 => h9) rfl hin rfl (by decide +kernel) rfl rfl (Nat.le_of_ble_eq_true rfl) d_Ff_init_8 (fun H locs hP hD hS => ?_)
  have hP : va_P (dC, dI) vwCl [(h, .inr (0, [.ref q0])), (q0, .inl (tC 0, 3, .inl (fun _ => 0)))] H := hP
  have hD : va_D A [(h, .inr (0, [.ref q0])), (q0, .inl (tC 0, 3, .inl (fun _ => 0)))] := hD
  refine W.widen (k := 1) (n := 3) (by decide +kernel) (by decide +kernel) ?_
  subst hQ
  subst hAe
  exact W.vret hx hb hr (fun t ht hW => ⟨⟨none, [(h, .inr (0, [.ref q0])), (q0, .inl (tC 0, 3, .inl (fun _ => 0)))], rfl, ⟨rfl, ⟨fun j => [q0].getD j 0, rfl⟩⟩, by rw [ht]; exact hP, hD⟩, hS.F ht⟩) hS.2.2 d_Ff_init_11
def rm_Tr_init : Room := { frames := 1, cells := 5, slots := 55, locals := 40 }
set_option maxHeartbeats 4000000 in
set_option maxRecDepth 100000 in
theorem m_Tr_init (l : Launch) (dC : Nat → ClassId) (dI : Nat → Nat → Nat) (tC : Nat → ClassId) (h : Nat) (sz : Nat) : Met l y_Tr_init w_Tr_init rm_Tr_init (wrP (dC, dI) tC [(h, .inr (7, [.null, .null, .null, .null, .null, .int 0, .int 0, .int 0]))] sz [.ref h]) (wrQ (dC, dI) [(h, .inr (7, [.null, .null, .null, .null, .null, .int 0, .int 0, .int 0]))] sz (fun r w => r = none ∧ ∃ ad : Nat → Nat, w = w_Tr_ h ad tC S0)) 5 55 (va_A [(h, .inr (7, [.null, .null, .null, .null, .null, .int 0, .int 0, .int 0]))] sz) := by
  refine Met.ofW (cc := c_Tr_init) (maxL := 1) (ret := none) (by decide) rfl ?_
  intro p e s m args below meth c s₁ B hml hv
  obtain ⟨hav, hsz, hP, hK, hD0⟩ := hv
  have hx := B.exec
  have hb := B.bytes
  have hr := B.returns
  have hts : ∀ w ∈ gw, w.before args s = true := fun w h => atoms_spec (ws := w_Tr_init) B.pre w (List.mem_cons_of_mem _ h)
  have hown : s.vm.findClass RX7 = some m.cls := findClass_of_methodNamed B.named
  have hlocks := B.notSynchronized
  have hin : meth.name = "<init>" := (name_of_methodNamed B.named B.method).1
  subst hsz
  have hD := hD0.self (sz := s.heap.size)
  obtain ⟨A, hAe⟩ : ∃ z, z = va_A [(h, .inr (7, [.null, .null, .null, .null, .null, .int 0, .int 0, .int 0]))] s.heap.size := ⟨_, rfl⟩
  rw [← hAe] at hD
  have hA : ∀ q : Nat, s.heap.size ≤ q → A q := fun q h => by rw [hAe]; exact Or.inr h
  have hS : va_S A s.heap s.heap [] := va_S.rf
  refine q_w (R := rm_Tr_init) (fun Q hQ => ?_)
  refine en_w (av := [.ref h]) hav (Nat.le_of_ble_eq_true rfl) (fun ls hl => ?_)
  have hl : lv_has ls 1 [(0, .ref h)] := hl
  refine lv_aload_n hx hb d_Tr_init_0 rfl (lv_at hl 0 rfl) ?_
  refine W.objInit hx hb hown (hts _ kM_7_3) (hts _ kI_obj) (hts _ kC_obj) rfl (by rw [hml]; exact hl.1) rfl d_Tr_init_1 (Nat.le_of_ble_eq_true rfl) (Nat.le_of_ble_eq_true rfl) ?_
  refine W.eq (g2 := F0 m 4 ls []) rfl ?_
  refine lv_aload_n hx hb d_Tr_init_4 rfl (lv_at hl 0 rfl) ?_
  refine lv_bipush (v := 11) hx hb d_Tr_init_5 (by decide) ?_
  refine xa_new (atype := .int) (ty := .int) (n := 11) (N' := 11) (a0 := (11, .inl (fun _ => 0))) hx hb (hts _ kA_int) rfl hK 0 rfl (fun _ _ => rfl) hP hD hS hA (xv_int _) (by decide +kernel) (by decide +kernel) (by decide +kernel) (by decide +kernel) (by decide +kernel) d_Tr_init_7 (fun q0 H hP hD hS => ?_)
  have hP : va_P (dC, dI) vwCl [(h, .inr (7, [.null, .null, .null, .null, .null, .int 0, .int 0, .int 0])), (q0, .inl (tC 0, 11, .inl (fun _ => 0)))] H := hP
  have hD : va_D A [(h, .inr (7, [.null, .null, .null, .null, .null, .int 0, .int 0, .int 0])), (q0, .inl (tC 0, 11, .inl (fun _ => 0)))] := hD
  refine va_putF (D := (dC, dI)) (ci := 7) (v := .ref q0) (ty := .array .int) (C := RX7) (T := TX7) (N := 8) hx hb hts in_X7 tyX7 tyX7_ok nmX7 hown hK hP hD hS 0 (fs := [.null, .null, .null, .null, .null, .int 0, .int 0, .int 0]) rfl rfl 0 (by decide) (hts _ kF_7_11) (fun _ h9 => h9) rfl hin rfl (by decide +kernel) rfl rfl (Nat.le_of_ble_eq_true rfl) d_Tr_init_9 (fun H locs hP hD hS => ?_)
  have hP : va_P (dC, dI) vwCl [(h, .inr (7, [.ref q0, .null, .null, .null, .null, .int 0, .int 0, .int 0])), (q0, .inl (tC 0, 11, .inl (fun _ => 0)))] H := hP
  have hD : va_D A [(h, .inr (7, [.ref q0, .null, .null, .null, .null, .int 0, .int 0, .int 0])), (q0, .inl (tC 0, 11, .inl (fun _ => 0)))] := hD
  refine lv_aload_n hx hb d_Tr_init_12 rfl (lv_at hl 0 rfl) ?_
  refine lv_bipush (v := 11) hx hb d_Tr_init_13 (by decide) ?_
  refine xa_new (atype := .int) (ty := .int) (n := 11) (N' := 11) (a0 := (11, .inl (fun _ => 0))) hx hb (hts _ kA_int) rfl hK 0 rfl (fun _ _ => rfl) hP hD hS hA (xv_int _) (by decide +kernel) (by decide +kernel) (by decide +kernel) (by decide +kernel) (by decide +kernel) d_Tr_init_15 (fun q1 H hP hD hS => ?_)
  have hP : va_P (dC, dI) vwCl [(h, .inr (7, [.ref q0, .null, .null, .null, .null, .int 0, .int 0, .int 0])), (q0, .inl (tC 0, 11, .inl (fun _ => 0))), (q1, .inl (tC 0, 11, .inl (fun _ => 0)))] H := hP
  have hD : va_D A [(h, .inr (7, [.ref q0, .null, .null, .null, .null, .int 0, .int 0, .int 0])), (q0, .inl (tC 0, 11, .inl (fun _ => 0))), (q1, .inl (tC 0, 11, .inl (fun _ => 0)))] := hD
  refine va_putF (D := (dC, dI)) (ci := 7) (v := .ref q1) (ty := .array .int) (C := RX7) (T := TX7) (N := 8) hx hb hts in_X7 tyX7 tyX7_ok nmX7 hown hK hP hD hS 0 (fs := [.ref q0, .null, .null, .null, .null, .int 0, .int 0, .int 0]) rfl rfl 1 (by decide) (hts _ kF_7_15) (fun _ h9 => h9) rfl hin rfl (by decide +kernel) rfl rfl (Nat.le_of_ble_eq_true rfl) d_Tr_init_17 (fun H locs hP hD hS => ?_)
  have hP : va_P (dC, dI) vwCl [(h, .inr (7, [.ref q0, .ref q1, .null, .null, .null, .int 0, .int 0, .int 0])), (q0, .inl (tC 0, 11, .inl (fun _ => 0))), (q1, .inl (tC 0, 11, .inl (fun _ => 0)))] H := hP
  have hD : va_D A [(h, .inr (7, [.ref q0, .ref q1, .null, .null, .null, .int 0, .int 0, .int 0])), (q0, .inl (tC 0, 11, .inl (fun _ => 0))), (q1, .inl (tC 0, 11, .inl (fun _ => 0)))] := hD
  refine lv_aload_n hx hb d_Tr_init_20 rfl (lv_at hl 0 rfl) ?_
  refine lv_bipush (v := 11) hx hb d_Tr_init_21 (by decide) ?_
  refine xa_new (atype := .int) (ty := .int) (n := 11) (N' := 11) (a0 := (11, .inl (fun _ => 0))) hx hb (hts _ kA_int) rfl hK 0 rfl (fun _ _ => rfl) hP hD hS hA (xv_int _) (by decide +kernel) (by decide +kernel) (by decide +kernel) (by decide +kernel) (by decide +kernel) d_Tr_init_23 (fun q2 H hP hD hS => ?_)
  have hP : va_P (dC, dI) vwCl [(h, .inr (7, [.ref q0, .ref q1, .null, .null, .null, .int 0, .int 0, .int 0])), (q0, .inl (tC 0, 11, .inl (fun _ => 0))), (q1, .inl (tC 0, 11, .inl (fun _ => 0))), (q2, .inl (tC 0, 11, .inl (fun _ => 0)))] H := hP
  have hD : va_D A [(h, .inr (7, [.ref q0, .ref q1, .null, .null, .null, .int 0, .int 0, .int 0])), (q0, .inl (tC 0, 11, .inl (fun _ => 0))), (q1, .inl (tC 0, 11, .inl (fun _ => 0))), (q2, .inl (tC 0, 11, .inl (fun _ => 0)))] := hD
  refine va_putF (D := (dC, dI)) (ci := 7) (v := .ref q2) (ty := .array .int) (C := RX7) (T := TX7) (N := 8) hx hb hts in_X7 tyX7 tyX7_ok nmX7 hown hK hP hD hS 0 (fs := [.ref q0, .ref q1, .null, .null, .null, .int 0, .int 0, .int 0]) rfl rfl 2 (by decide) (hts _ kF_7_18) (fun _ h9 => h9) rfl hin rfl (by decide +kernel) rfl rfl (Nat.le_of_ble_eq_true rfl) d_Tr_init_25 (fun H locs hP hD hS => ?_)
  have hP : va_P (dC, dI) vwCl [(h, .inr (7, [.ref q0, .ref q1, .ref q2, .null, .null, .int 0, .int 0, .int 0])), (q0, .inl (tC 0, 11, .inl (fun _ => 0))), (q1, .inl (tC 0, 11, .inl (fun _ => 0))), (q2, .inl (tC 0, 11, .inl (fun _ => 0)))] H := hP
  have hD : va_D A [(h, .inr (7, [.ref q0, .ref q1, .ref q2, .null, .null, .int 0, .int 0, .int 0])), (q0, .inl (tC 0, 11, .inl (fun _ => 0))), (q1, .inl (tC 0, 11, .inl (fun _ => 0))), (q2, .inl (tC 0, 11, .inl (fun _ => 0)))] := hD
  refine lv_aload_n hx hb d_Tr_init_28 rfl (lv_at hl 0 rfl) ?_
  refine lv_bipush (v := 11) hx hb d_Tr_init_29 (by decide) ?_
  refine xa_new (atype := .int) (ty := .int) (n := 11) (N' := 11) (a0 := (11, .inl (fun _ => 0))) hx hb (hts _ kA_int) rfl hK 0 rfl (fun _ _ => rfl) hP hD hS hA (xv_int _) (by decide +kernel) (by decide +kernel) (by decide +kernel) (by decide +kernel) (by decide +kernel) d_Tr_init_31 (fun q3 H hP hD hS => ?_)
  have hP : va_P (dC, dI) vwCl [(h, .inr (7, [.ref q0, .ref q1, .ref q2, .null, .null, .int 0, .int 0, .int 0])), (q0, .inl (tC 0, 11, .inl (fun _ => 0))), (q1, .inl (tC 0, 11, .inl (fun _ => 0))), (q2, .inl (tC 0, 11, .inl (fun _ => 0))), (q3, .inl (tC 0, 11, .inl (fun _ => 0)))] H := hP
  have hD : va_D A [(h, .inr (7, [.ref q0, .ref q1, .ref q2, .null, .null, .int 0, .int 0, .int 0])), (q0, .inl (tC 0, 11, .inl (fun _ => 0))), (q1, .inl (tC 0, 11, .inl (fun _ => 0))), (q2, .inl (tC 0, 11, .inl (fun _ => 0))), (q3, .inl (tC 0, 11, .inl (fun _ => 0)))] := hD
  refine va_putF (D := (dC, dI)) (ci := 7) (v := .ref q3) (ty := .array .int) (C := RX7) (T := TX7) (N := 8) hx hb hts in_X7 tyX7 tyX7_ok nmX7 hown hK hP hD hS 0 (fs := [.ref q0, .ref q1, .ref q2, .null, .null, .int 0, .int 0, .int 0]) rfl rfl 3 (by decide) (hts _ kF_7_21) (fun _ h9 => h9) rfl hin rfl (by decide +kernel) rfl rfl (Nat.le_of_ble_eq_true rfl) d_Tr_init_33 (fun H locs hP hD hS => ?_)
  have hP : va_P (dC, dI) vwCl [(h, .inr (7, [.ref q0, .ref q1, .ref q2, .ref q3, .null, .int 0, .int 0, .int 0])), (q0, .inl (tC 0, 11, .inl (fun _ => 0))), (q1, .inl (tC 0, 11, .inl (fun _ => 0))), (q2, .inl (tC 0, 11, .inl (fun _ => 0))), (q3, .inl (tC 0, 11, .inl (fun _ => 0)))] H := hP
  have hD : va_D A [(h, .inr (7, [.ref q0, .ref q1, .ref q2, .ref q3, .null, .int 0, .int 0, .int 0])), (q0, .inl (tC 0, 11, .inl (fun _ => 0))), (q1, .inl (tC 0, 11, .inl (fun _ => 0))), (q2, .inl (tC 0, 11, .inl (fun _ => 0))), (q3, .inl (tC 0, 11, .inl (fun _ => 0)))] := hD
  refine lv_aload_n hx hb d_Tr_init_36 rfl (lv_at hl 0 rfl) ?_
  refine lv_bipush (v := 11) hx hb d_Tr_init_37 (by decide) ?_
  refine xa_new (atype := .boolean) (ty := .boolean) (n := 11) (N' := 11) (a0 := (11, .inl (fun _ => 0))) hx hb (hts _ kA_boolean) rfl hK 3 rfl (fun _ _ => rfl) hP hD hS hA (xv_boolean _) (by decide +kernel) (by decide +kernel) (by decide +kernel) (by decide +kernel) (by decide +kernel) d_Tr_init_39 (fun q4 H hP hD hS => ?_)
  have hP : va_P (dC, dI) vwCl [(h, .inr (7, [.ref q0, .ref q1, .ref q2, .ref q3, .null, .int 0, .int 0, .int 0])), (q0, .inl (tC 0, 11, .inl (fun _ => 0))), (q1, .inl (tC 0, 11, .inl (fun _ => 0))), (q2, .inl (tC 0, 11, .inl (fun _ => 0))), (q3, .inl (tC 0, 11, .inl (fun _ => 0))), (q4, .inl (tC 3, 11, .inl (fun _ => 0)))] H := hP
  have hD : va_D A [(h, .inr (7, [.ref q0, .ref q1, .ref q2, .ref q3, .null, .int 0, .int 0, .int 0])), (q0, .inl (tC 0, 11, .inl (fun _ => 0))), (q1, .inl (tC 0, 11, .inl (fun _ => 0))), (q2, .inl (tC 0, 11, .inl (fun _ => 0))), (q3, .inl (tC 0, 11, .inl (fun _ => 0))), (q4, .inl (tC 3, 11, .inl (fun _ => 0)))] := hD
  refine va_putF (D := (dC, dI)) (ci := 7) (v := .ref q4) (ty := .array .boolean) (C := RX7) (T := TX7) (N := 8) hx hb hts in_X7 tyX7 tyX7_ok nmX7 hown hK hP hD hS 0 (fs := [.ref q0, .ref q1, .ref q2, .ref q3, .null, .int 0, .int 0, .int 0]) rfl rfl 4 (by decide) (hts _ kF_7_24) (fun _ h9 => h9) rfl hin rfl (by decide +kernel) rfl rfl (Nat.le_of_ble_eq_true rfl) d_Tr_init_41 (fun H locs hP hD hS => ?_)
  have hP : va_P (dC, dI) vwCl [(h, .inr (7, [.ref q0, .ref q1, .ref q2, .ref q3, .ref q4, .int 0, .int 0, .int 0])), (q0, .inl (tC 0, 11, .inl (fun _ => 0))), (q1, .inl (tC 0, 11, .inl (fun _ => 0))), (q2, .inl (tC 0, 11, .inl (fun _ => 0))), (q3, .inl (tC 0, 11, .inl (fun _ => 0))), (q4, .inl (tC 3, 11, .inl (fun _ => 0)))] H := hP
  have hD : va_D A [(h, .inr (7, [.ref q0, .ref q1, .ref q2, .ref q3, .ref q4, .int 0, .int 0, .int 0])), (q0, .inl (tC 0, 11, .inl (fun _ => 0))), (q1, .inl (tC 0, 11, .inl (fun _ => 0))), (q2, .inl (tC 0, 11, .inl (fun _ => 0))), (q3, .inl (tC 0, 11, .inl (fun _ => 0))), (q4, .inl (tC 3, 11, .inl (fun _ => 0)))] := hD
  refine W.widen (k := 5) (n := 55) (by decide +kernel) (by decide +kernel) ?_
  subst hQ
  subst hAe
  exact W.vret hx hb hr (fun t ht hW => ⟨⟨none, [(h, .inr (7, [.ref q0, .ref q1, .ref q2, .ref q3, .ref q4, .int 0, .int 0, .int 0])), (q0, .inl (tC 0, 11, .inl (fun _ => 0))), (q1, .inl (tC 0, 11, .inl (fun _ => 0))), (q2, .inl (tC 0, 11, .inl (fun _ => 0))), (q3, .inl (tC 0, 11, .inl (fun _ => 0))), (q4, .inl (tC 3, 11, .inl (fun _ => 0)))], rfl, ⟨rfl, ⟨fun j => [q0, q1, q2, q3, q4].getD j 0, rfl⟩⟩, by rw [ht]; exact hP, hD⟩, hS.F ht⟩) hS.2.2 d_Tr_init_44
def rm_Sf_init : Room := { frames := 1, cells := 2, slots := 6, locals := 40 }
set_option maxHeartbeats 4000000 in
set_option maxRecDepth 100000 in
theorem m_Sf_init (l : Launch) (dC : Nat → ClassId) (dI : Nat → Nat → Nat) (tC : Nat → ClassId) (h : Nat) (sz : Nat) : Met l y_Sf_init w_Sf_init rm_Sf_init (wrP (dC, dI) tC [(h, .inr (5, [.null, .null, .int 0]))] sz [.ref h]) (wrQ (dC, dI) [(h, .inr (5, [.null, .null, .int 0]))] sz (fun r w => r = none ∧ ∃ ad : Nat → Nat, w = w_Sf_ h ad tC S0)) 2 6 (va_A [(h, .inr (5, [.null, .null, .int 0]))] sz) := by
  refine Met.ofW (cc := c_Sf_init) (maxL := 1) (ret := none) (by decide) rfl ?_
  intro p e s m args below meth c s₁ B hml hv
  obtain ⟨hav, hsz, hP, hK, hD0⟩ := hv
  have hx := B.exec
  have hb := B.bytes
  have hr := B.returns
  have hts : ∀ w ∈ gw, w.before args s = true := fun w h => atoms_spec (ws := w_Sf_init) B.pre w (List.mem_cons_of_mem _ h)
  have hown : s.vm.findClass RX5 = some m.cls := findClass_of_methodNamed B.named
  have hlocks := B.notSynchronized
  have hin : meth.name = "<init>" := (name_of_methodNamed B.named B.method).1
  subst hsz
  have hD := hD0.self (sz := s.heap.size)
  obtain ⟨A, hAe⟩ : ∃ z, z = va_A [(h, .inr (5, [.null, .null, .int 0]))] s.heap.size := ⟨_, rfl⟩
  rw [← hAe] at hD
  have hA : ∀ q : Nat, s.heap.size ≤ q → A q := fun q h => by rw [hAe]; exact Or.inr h
  have hS : va_S A s.heap s.heap [] := va_S.rf
  refine q_w (R := rm_Sf_init) (fun Q hQ => ?_)
  refine en_w (av := [.ref h]) hav (Nat.le_of_ble_eq_true rfl) (fun ls hl => ?_)
  have hl : lv_has ls 1 [(0, .ref h)] := hl
  refine lv_aload_n hx hb d_Sf_init_0 rfl (lv_at hl 0 rfl) ?_
  refine W.objInit hx hb hown (hts _ kM_5_3) (hts _ kI_obj) (hts _ kC_obj) rfl (by rw [hml]; exact hl.1) rfl d_Sf_init_1 (Nat.le_of_ble_eq_true rfl) (Nat.le_of_ble_eq_true rfl) ?_
  refine W.eq (g2 := F0 m 4 ls []) rfl ?_
  refine lv_aload_n hx hb d_Sf_init_4 rfl (lv_at hl 0 rfl) ?_
  refine lv_iconst (v := 3) hx hb d_Sf_init_5 (by decide) ?_
  refine xa_new (atype := .int) (ty := .int) (n := 3) (N' := 3) (a0 := (3, .inl (fun _ => 0))) hx hb (hts _ kA_int) rfl hK 0 rfl (fun _ _ => rfl) hP hD hS hA (xv_int _) (by decide +kernel) (by decide +kernel) (by decide +kernel) (by decide +kernel) (by decide +kernel) d_Sf_init_6 (fun q0 H hP hD hS => ?_)
  have hP : va_P (dC, dI) vwCl [(h, .inr (5, [.null, .null, .int 0])), (q0, .inl (tC 0, 3, .inl (fun _ => 0)))] H := hP
  have hD : va_D A [(h, .inr (5, [.null, .null, .int 0])), (q0, .inl (tC 0, 3, .inl (fun _ => 0)))] := hD
  refine va_putF (D := (dC, dI)) (ci := 5) (v := .ref q0) (ty := .array .int) (C := RX5) (T := TX5) (N := 3) hx hb hts in_X5 tyX5 tyX5_ok nmX5 hown hK hP hD hS 0 (fs := [.null, .null, .int 0]) rfl rfl 0 (by decide) (hts _ kF_5_9) (fun _ h9 => h9) rfl hin rfl (by decide +kernel) rfl rfl (Nat.le_of_ble_eq_true rfl) d_Sf_init_8 (fun H locs hP hD hS => ?_)
  have hP : va_P (dC, dI) vwCl [(h, .inr (5, [.ref q0, .null, .int 0])), (q0, .inl (tC 0, 3, .inl (fun _ => 0)))] H := hP
  have hD : va_D A [(h, .inr (5, [.ref q0, .null, .int 0])), (q0, .inl (tC 0, 3, .inl (fun _ => 0)))] := hD
  refine lv_aload_n hx hb d_Sf_init_11 rfl (lv_at hl 0 rfl) ?_
  refine lv_iconst (v := 3) hx hb d_Sf_init_12 (by decide) ?_
  refine xa_new (atype := .int) (ty := .int) (n := 3) (N' := 3) (a0 := (3, .inl (fun _ => 0))) hx hb (hts _ kA_int) rfl hK 0 rfl (fun _ _ => rfl) hP hD hS hA (xv_int _) (by decide +kernel) (by decide +kernel) (by decide +kernel) (by decide +kernel) (by decide +kernel) d_Sf_init_13 (fun q1 H hP hD hS => ?_)
  have hP : va_P (dC, dI) vwCl [(h, .inr (5, [.ref q0, .null, .int 0])), (q0, .inl (tC 0, 3, .inl (fun _ => 0))), (q1, .inl (tC 0, 3, .inl (fun _ => 0)))] H := hP
  have hD : va_D A [(h, .inr (5, [.ref q0, .null, .int 0])), (q0, .inl (tC 0, 3, .inl (fun _ => 0))), (q1, .inl (tC 0, 3, .inl (fun _ => 0)))] := hD
  refine va_putF (D := (dC, dI)) (ci := 5) (v := .ref q1) (ty := .array .int) (C := RX5) (T := TX5) (N := 3) hx hb hts in_X5 tyX5 tyX5_ok nmX5 hown hK hP hD hS 0 (fs := [.ref q0, .null, .int 0]) rfl rfl 1 (by decide) (hts _ kF_5_15) (fun _ h9 => h9) rfl hin rfl (by decide +kernel) rfl rfl (Nat.le_of_ble_eq_true rfl) d_Sf_init_15 (fun H locs hP hD hS => ?_)
  have hP : va_P (dC, dI) vwCl [(h, .inr (5, [.ref q0, .ref q1, .int 0])), (q0, .inl (tC 0, 3, .inl (fun _ => 0))), (q1, .inl (tC 0, 3, .inl (fun _ => 0)))] H := hP
  have hD : va_D A [(h, .inr (5, [.ref q0, .ref q1, .int 0])), (q0, .inl (tC 0, 3, .inl (fun _ => 0))), (q1, .inl (tC 0, 3, .inl (fun _ => 0)))] := hD
  refine W.widen (k := 2) (n := 6) (by decide +kernel) (by decide +kernel) ?_
  subst hQ
  subst hAe
  exact W.vret hx hb hr (fun t ht hW => ⟨⟨none, [(h, .inr (5, [.ref q0, .ref q1, .int 0])), (q0, .inl (tC 0, 3, .inl (fun _ => 0))), (q1, .inl (tC 0, 3, .inl (fun _ => 0)))], rfl, ⟨rfl, ⟨fun j => [q0, q1].getD j 0, rfl⟩⟩, by rw [ht]; exact hP, hD⟩, hS.F ht⟩) hS.2.2 d_Sf_init_18
def rm_Ln_init : Room := { frames := 1, cells := 1, slots := 6, locals := 40 }
set_option maxHeartbeats 4000000 in
set_option maxRecDepth 100000 in
theorem m_Ln_init (l : Launch) (dC : Nat → ClassId) (dI : Nat → Nat → Nat) (tC : Nat → ClassId) (h : Nat) (a1 : Int32) (b1 : Nat) (c1 d1 : Int32) (sz : Nat) : Met l y_Ln_init w_Ln_init rm_Ln_init (wrP (dC, dI) tC [(h, .inr (2, [.int 0, .null, .int 0, .int 0, .null, .int 0, .int 0, .int 0, .int 0]))] sz [.ref h, .int a1, .ref b1, .int c1, .int d1]) (wrQ (dC, dI) [(h, .inr (2, [.int 0, .null, .int 0, .int 0, .null, .int 0, .int 0, .int 0, .int 0]))] sz (fun r w => r = none ∧ ∃ q : Nat, w = w_Ln_ h (fun j => if j = 0 then q else b1) tC (sI (sI (sI S0 0 a1) 1 c1) 2 d1))) 1 6 (va_A [(h, .inr (2, [.int 0, .null, .int 0, .int 0, .null, .int 0, .int 0, .int 0, .int 0]))] sz) := by
  refine Met.ofW (cc := c_Ln_init) (maxL := 5) (ret := none) (by decide) rfl ?_
  intro p e s m args below meth c s₁ B hml hv
  obtain ⟨hav, hsz, hP, hK, hD0⟩ := hv
  have hx := B.exec
  have hb := B.bytes
  have hr := B.returns
  have hts : ∀ w ∈ gw, w.before args s = true := fun w h => atoms_spec (ws := w_Ln_init) B.pre w (List.mem_cons_of_mem _ h)
  have hown : s.vm.findClass RX2 = some m.cls := findClass_of_methodNamed B.named
  have hlocks := B.notSynchronized
  have hin : meth.name = "<init>" := (name_of_methodNamed B.named B.method).1
  subst hsz
  have hD := hD0.self (sz := s.heap.size)
  obtain ⟨A, hAe⟩ : ∃ z, z = va_A [(h, .inr (2, [.int 0, .null, .int 0, .int 0, .null, .int 0, .int 0, .int 0, .int 0]))] s.heap.size := ⟨_, rfl⟩
  rw [← hAe] at hD
  have hA : ∀ q : Nat, s.heap.size ≤ q → A q := fun q h => by rw [hAe]; exact Or.inr h
  have hS : va_S A s.heap s.heap [] := va_S.rf
  refine q_w (R := rm_Ln_init) (fun Q hQ => ?_)
  refine en_w (av := [.ref h, .int a1, .ref b1, .int c1, .int d1]) hav (Nat.le_of_ble_eq_true rfl) (fun ls hl => ?_)
  have hl : lv_has ls 5 [(0, .ref h), (1, .int a1), (2, .ref b1), (3, .int c1), (4, .int d1)] := hl
  refine lv_aload_n hx hb d_Ln_init_0 rfl (lv_at hl 0 rfl) ?_
  refine W.objInit hx hb hown (hts _ kM_2_3) (hts _ kI_obj) (hts _ kC_obj) rfl (by rw [hml]; exact hl.1) rfl d_Ln_init_1 (Nat.le_of_ble_eq_true rfl) (Nat.le_of_ble_eq_true rfl) ?_
  refine W.eq (g2 := F0 m 4 ls []) rfl ?_
  refine lv_aload_n hx hb d_Ln_init_4 rfl (lv_at hl 0 rfl) ?_
  refine lv_bipush (v := 6) hx hb d_Ln_init_5 (by decide) ?_
  refine xa_new (atype := .int) (ty := .int) (n := 6) (N' := 6) (a0 := (6, .inl (fun _ => 0))) hx hb (hts _ kA_int) rfl hK 0 rfl (fun _ _ => rfl) hP hD hS hA (xv_int _) (by decide +kernel) (by decide +kernel) (by decide +kernel) (by decide +kernel) (by decide +kernel) d_Ln_init_7 (fun q0 H hP hD hS => ?_)
  have hP : va_P (dC, dI) vwCl [(h, .inr (2, [.int 0, .null, .int 0, .int 0, .null, .int 0, .int 0, .int 0, .int 0])), (q0, .inl (tC 0, 6, .inl (fun _ => 0)))] H := hP
  have hD : va_D A [(h, .inr (2, [.int 0, .null, .int 0, .int 0, .null, .int 0, .int 0, .int 0, .int 0])), (q0, .inl (tC 0, 6, .inl (fun _ => 0)))] := hD
  refine va_putF (D := (dC, dI)) (ci := 2) (v := .ref q0) (ty := .array .int) (C := RX2) (T := TX2) (N := 9) hx hb hts in_X2 tyX2 tyX2_ok nmX2 hown hK hP hD hS 0 (fs := [.int 0, .null, .int 0, .int 0, .null, .int 0, .int 0, .int 0, .int 0]) rfl rfl 4 (by decide) (hts _ kF_2_9) (fun _ h9 => h9) rfl hin rfl (by decide +kernel) rfl rfl (Nat.le_of_ble_eq_true rfl) d_Ln_init_9 (fun H locs hP hD hS => ?_)
  have hP : va_P (dC, dI) vwCl [(h, .inr (2, [.int 0, .null, .int 0, .int 0, .ref q0, .int 0, .int 0, .int 0, .int 0])), (q0, .inl (tC 0, 6, .inl (fun _ => 0)))] H := hP
  have hD : va_D A [(h, .inr (2, [.int 0, .null, .int 0, .int 0, .ref q0, .int 0, .int 0, .int 0, .int 0])), (q0, .inl (tC 0, 6, .inl (fun _ => 0)))] := hD
  refine lv_aload_n hx hb d_Ln_init_12 rfl (lv_at hl 0 rfl) ?_
  refine lv_iload_n hx hb d_Ln_init_13 rfl (lv_at hl 1 rfl) ?_
  refine va_putF (D := (dC, dI)) (ci := 2) (v := .int a1) (ty := .int) (C := RX2) (T := TX2) (N := 9) hx hb hts in_X2 tyX2 tyX2_ok nmX2 hown hK hP hD hS 0 (fs := [.int 0, .null, .int 0, .int 0, .ref q0, .int 0, .int 0, .int 0, .int 0]) rfl rfl 0 (by decide) (hts _ kF_2_15) (fun _ h9 => h9) rfl hin rfl (by decide +kernel) rfl rfl (Nat.le_of_ble_eq_true rfl) d_Ln_init_14 (fun H locs hP hD hS => ?_)
  have hP : va_P (dC, dI) vwCl [(h, .inr (2, [.int a1, .null, .int 0, .int 0, .ref q0, .int 0, .int 0, .int 0, .int 0])), (q0, .inl (tC 0, 6, .inl (fun _ => 0)))] H := hP
  have hD : va_D A [(h, .inr (2, [.int a1, .null, .int 0, .int 0, .ref q0, .int 0, .int 0, .int 0, .int 0])), (q0, .inl (tC 0, 6, .inl (fun _ => 0)))] := hD
  refine lv_aload_n hx hb d_Ln_init_17 rfl (lv_at hl 0 rfl) ?_
  refine lv_aload_n hx hb d_Ln_init_18 rfl (lv_at hl 2 rfl) ?_
  refine va_putF (D := (dC, dI)) (ci := 2) (v := .ref b1) (ty := .object "BarCutting$Shape") (C := RX2) (T := TX2) (N := 9) hx hb hts in_X2 tyX2 tyX2_ok nmX2 hown hK hP hD hS 0 (fs := [.int a1, .null, .int 0, .int 0, .ref q0, .int 0, .int 0, .int 0, .int 0]) rfl rfl 1 (by decide) (hts _ kF_2_19) (fun _ h9 => h9) rfl hin rfl (by decide +kernel) rfl rfl (Nat.le_of_ble_eq_true rfl) d_Ln_init_19 (fun H locs hP hD hS => ?_)
  have hP : va_P (dC, dI) vwCl [(h, .inr (2, [.int a1, .ref b1, .int 0, .int 0, .ref q0, .int 0, .int 0, .int 0, .int 0])), (q0, .inl (tC 0, 6, .inl (fun _ => 0)))] H := hP
  have hD : va_D A [(h, .inr (2, [.int a1, .ref b1, .int 0, .int 0, .ref q0, .int 0, .int 0, .int 0, .int 0])), (q0, .inl (tC 0, 6, .inl (fun _ => 0)))] := hD
  refine lv_aload_n hx hb d_Ln_init_22 rfl (lv_at hl 0 rfl) ?_
  refine lv_iload_n hx hb d_Ln_init_23 rfl (lv_at hl 3 rfl) ?_
  refine va_putF (D := (dC, dI)) (ci := 2) (v := .int c1) (ty := .int) (C := RX2) (T := TX2) (N := 9) hx hb hts in_X2 tyX2 tyX2_ok nmX2 hown hK hP hD hS 0 (fs := [.int a1, .ref b1, .int 0, .int 0, .ref q0, .int 0, .int 0, .int 0, .int 0]) rfl rfl 2 (by decide) (hts _ kF_2_23) (fun _ h9 => h9) rfl hin rfl (by decide +kernel) rfl rfl (Nat.le_of_ble_eq_true rfl) d_Ln_init_24 (fun H locs hP hD hS => ?_)
  have hP : va_P (dC, dI) vwCl [(h, .inr (2, [.int a1, .ref b1, .int c1, .int 0, .ref q0, .int 0, .int 0, .int 0, .int 0])), (q0, .inl (tC 0, 6, .inl (fun _ => 0)))] H := hP
  have hD : va_D A [(h, .inr (2, [.int a1, .ref b1, .int c1, .int 0, .ref q0, .int 0, .int 0, .int 0, .int 0])), (q0, .inl (tC 0, 6, .inl (fun _ => 0)))] := hD
  refine lv_aload_n hx hb d_Ln_init_27 rfl (lv_at hl 0 rfl) ?_
  refine lv_iload hx hb d_Ln_init_28 (lv_at hl 4 rfl) ?_
  refine va_putF (D := (dC, dI)) (ci := 2) (v := .int d1) (ty := .int) (C := RX2) (T := TX2) (N := 9) hx hb hts in_X2 tyX2 tyX2_ok nmX2 hown hK hP hD hS 0 (fs := [.int a1, .ref b1, .int c1, .int 0, .ref q0, .int 0, .int 0, .int 0, .int 0]) rfl rfl 3 (by decide) (hts _ kF_2_26) (fun _ h9 => h9) rfl hin rfl (by decide +kernel) rfl rfl (Nat.le_of_ble_eq_true rfl) d_Ln_init_30 (fun H locs hP hD hS => ?_)
  have hP : va_P (dC, dI) vwCl [(h, .inr (2, [.int a1, .ref b1, .int c1, .int d1, .ref q0, .int 0, .int 0, .int 0, .int 0])), (q0, .inl (tC 0, 6, .inl (fun _ => 0)))] H := hP
  have hD : va_D A [(h, .inr (2, [.int a1, .ref b1, .int c1, .int d1, .ref q0, .int 0, .int 0, .int 0, .int 0])), (q0, .inl (tC 0, 6, .inl (fun _ => 0)))] := hD
  refine W.widen (k := 1) (n := 6) (by decide +kernel) (by decide +kernel) ?_
  subst hQ
  subst hAe
  exact W.vret hx hb hr (fun t ht hW => ⟨⟨none, [(h, .inr (2, [.int a1, .ref b1, .int c1, .int d1, .ref q0, .int 0, .int 0, .int 0, .int 0])), (q0, .inl (tC 0, 6, .inl (fun _ => 0)))], rfl, ⟨rfl, ⟨q0, rfl⟩⟩, by rw [ht]; exact hP, hD⟩, hS.F ht⟩) hS.2.2 d_Ln_init_33
def rm_Sh_init : Room := { frames := 1, cells := 0, slots := 0, locals := 40 }
set_option maxHeartbeats 4000000 in
set_option maxRecDepth 100000 in
theorem m_Sh_init (l : Launch) (dC : Nat → ClassId) (dI : Nat → Nat → Nat) (tC : Nat → ClassId) (h tx n1 : Nat) (f1 : Nat → Int32) (g1 : Int32) (sz : Nat) : Met l y_Sh_init w_Sh_init rm_Sh_init (wrP (dC, dI) tC [(h, .inr (4, [.null, .int 0, .int 0])), (tx, .inl (tC 2, n1, .inl f1))] sz [.ref h, .ref tx, .int g1]) (wrQ (dC, dI) [(h, .inr (4, [.null, .int 0, .int 0])), (tx, .inl (tC 2, n1, .inl f1))] sz (fun r w => r = none ∧ w = w_Sh_ h (fun _ => tx) tC n1 (sI (sI (fun _ => 0, fun _ => f1, fun _ _ => 0) 0 ((Int32.ofNat n1 + 1) / 2)) 1 g1))) 0 0 (va_A [(h, .inr (4, [.null, .int 0, .int 0])), (tx, .inl (tC 2, n1, .inl f1))] sz) := by
  refine Met.ofW (cc := c_Sh_init) (maxL := 3) (ret := none) (by decide) rfl ?_
  intro p e s m args below meth c s₁ B hml hv
  obtain ⟨hav, hsz, hP, hK, hD0⟩ := hv
  have hx := B.exec
  have hb := B.bytes
  have hr := B.returns
  have hts : ∀ w ∈ gw, w.before args s = true := fun w h => atoms_spec (ws := w_Sh_init) B.pre w (List.mem_cons_of_mem _ h)
  have hown : s.vm.findClass RX4 = some m.cls := findClass_of_methodNamed B.named
  have hlocks := B.notSynchronized
  have hin : meth.name = "<init>" := (name_of_methodNamed B.named B.method).1
  subst hsz
  have hD := hD0.self (sz := s.heap.size)
  obtain ⟨A, hAe⟩ : ∃ z, z = va_A [(h, .inr (4, [.null, .int 0, .int 0])), (tx, .inl (tC 2, n1, .inl f1))] s.heap.size := ⟨_, rfl⟩
  rw [← hAe] at hD
  have hA : ∀ q : Nat, s.heap.size ≤ q → A q := fun q h => by rw [hAe]; exact Or.inr h
  have hS : va_S A s.heap s.heap [] := va_S.rf
  refine q_w (R := rm_Sh_init) (fun Q hQ => ?_)
  refine en_w (av := [.ref h, .ref tx, .int g1]) hav (Nat.le_of_ble_eq_true rfl) (fun ls hl => ?_)
  have hl : lv_has ls 3 [(0, .ref h), (1, .ref tx), (2, .int g1)] := hl
  refine lv_aload_n hx hb d_Sh_init_0 rfl (lv_at hl 0 rfl) ?_
  refine W.objInit hx hb hown (hts _ kM_4_1) (hts _ kI_obj) (hts _ kC_obj) rfl (by rw [hml]; exact hl.1) rfl d_Sh_init_1 (Nat.le_of_ble_eq_true rfl) (Nat.le_of_ble_eq_true rfl) ?_
  refine W.eq (g2 := F0 m 4 ls []) rfl ?_
  refine lv_aload_n hx hb d_Sh_init_4 rfl (lv_at hl 0 rfl) ?_
  refine lv_aload_n hx hb d_Sh_init_5 rfl (lv_at hl 1 rfl) ?_
  refine va_putF (D := (dC, dI)) (ci := 4) (v := .ref tx) (ty := .array .char) (C := RX4) (T := TX4) (N := 3) hx hb hts in_X4 tyX4 tyX4_ok nmX4 hown hK hP hD hS 0 (fs := [.null, .int 0, .int 0]) rfl rfl 0 (by decide) (hts _ kF_4_7) (fun _ h9 => h9) rfl hin rfl (by decide +kernel) rfl rfl (Nat.le_of_ble_eq_true rfl) d_Sh_init_6 (fun H locs hP hD hS => ?_)
  have hP : va_P (dC, dI) vwCl [(h, .inr (4, [.ref tx, .int 0, .int 0])), (tx, .inl (tC 2, n1, .inl f1))] H := hP
  have hD : va_D A [(h, .inr (4, [.ref tx, .int 0, .int 0])), (tx, .inl (tC 2, n1, .inl f1))] := hD
  refine lv_aload_n hx hb d_Sh_init_9 rfl (lv_at hl 0 rfl) ?_
  refine lv_aload_n hx hb d_Sh_init_10 rfl (lv_at hl 1 rfl) ?_
  refine va_alen hx hb hK hP 1 2 rfl rfl (v := Int32.ofNat n1) rfl d_Sh_init_11 ?_
  refine lv_iconst (v := 1) hx hb d_Sh_init_12 (by decide) ?_
  refine lv_iadd hx hb d_Sh_init_13 ?_
  refine lv_iconst (v := 2) hx hb d_Sh_init_14 (by decide) ?_
  refine lv_idiv hx hb d_Sh_init_15 (by decide) ?_
  refine va_putF (D := (dC, dI)) (ci := 4) (v := .int (((Int32.ofNat n1) + 1) / 2)) (ty := .int) (C := RX4) (T := TX4) (N := 3) hx hb hts in_X4 tyX4 tyX4_ok nmX4 hown hK hP hD hS 0 (fs := [.ref tx, .int 0, .int 0]) rfl rfl 1 (by decide) (hts _ kF_4_13) (fun _ h9 => h9) rfl hin rfl (by decide +kernel) rfl rfl (Nat.le_of_ble_eq_true rfl) d_Sh_init_16 (fun H locs hP hD hS => ?_)
  have hP : va_P (dC, dI) vwCl [(h, .inr (4, [.ref tx, .int (((Int32.ofNat n1) + 1) / 2), .int 0])), (tx, .inl (tC 2, n1, .inl f1))] H := hP
  have hD : va_D A [(h, .inr (4, [.ref tx, .int (((Int32.ofNat n1) + 1) / 2), .int 0])), (tx, .inl (tC 2, n1, .inl f1))] := hD
  refine lv_aload_n hx hb d_Sh_init_19 rfl (lv_at hl 0 rfl) ?_
  refine lv_iload_n hx hb d_Sh_init_20 rfl (lv_at hl 2 rfl) ?_
  refine va_putF (D := (dC, dI)) (ci := 4) (v := .int g1) (ty := .int) (C := RX4) (T := TX4) (N := 3) hx hb hts in_X4 tyX4 tyX4_ok nmX4 hown hK hP hD hS 0 (fs := [.ref tx, .int (((Int32.ofNat n1) + 1) / 2), .int 0]) rfl rfl 2 (by decide) (hts _ kF_4_17) (fun _ h9 => h9) rfl hin rfl (by decide +kernel) rfl rfl (Nat.le_of_ble_eq_true rfl) d_Sh_init_21 (fun H locs hP hD hS => ?_)
  have hP : va_P (dC, dI) vwCl [(h, .inr (4, [.ref tx, .int (((Int32.ofNat n1) + 1) / 2), .int g1])), (tx, .inl (tC 2, n1, .inl f1))] H := hP
  have hD : va_D A [(h, .inr (4, [.ref tx, .int (((Int32.ofNat n1) + 1) / 2), .int g1])), (tx, .inl (tC 2, n1, .inl f1))] := hD
  refine W.widen (k := 0) (n := 0) (by decide +kernel) (by decide +kernel) ?_
  subst hQ
  subst hAe
  exact W.vret hx hb hr (fun t ht hW => ⟨⟨none, [(h, .inr (4, [.ref tx, .int (((Int32.ofNat n1) + 1) / 2), .int g1])), (tx, .inl (tC 2, n1, .inl f1))], rfl, ⟨rfl, rfl⟩, by rw [ht]; exact hP, hD⟩, hS.F ht⟩) hS.2.2 d_Sh_init_24
