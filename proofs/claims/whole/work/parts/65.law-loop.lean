def R_law : String := "BarCuttingLaw"
def lw_P (b : Addr) (xs : List Int32) (args : Array Value) (s : State) : Prop := args = #[.ref b] ∧ s.IntsAt b xs ∧ xs.length ≤ 4096 ∧ (Jvm.Cond.and given_1 narrow_1).before args s = true
def lw_Q (_ : Array Value) (s : State) (o : Outcome) (t : State) : Prop := o = .returned (some (.int 1)) ∧ Framed s o t [] 637990 7188278
def lw_Z (below : List Frame) (a : Array Value) (s : State) : State → Prop := fun t => ∃ o, t.status = .running ∧ Ended t below o ∧ lw_Q a s o t
/-- the law's own end, with 1 on the stack, nothing written that was there before, its room as the claim has it -/
theorem lw_ret {p : Program} {l : Launch} {e : Env} {s : State} {m : MethodId} {below : List Frame} {meth : Method} {c : Code} {b : Nat} (hx : p.tables.exec = Jvm.exec) (hb : c.code = code) (hr : meth.sig.returnType = ret) (hlocks : meth.locks = false) {pc : Nat} {H : Heap} {ls : Array Slot} (hdg : decode code pc = .ok (.ireturn, 1)) : W p l e room_1 s m #[Value.ref b] below meth c H [] 637990 7188278 (lw_Z below #[Value.ref b] s) (F0 m pc ls [.int 1]) := by
  intro T hT X
  obtain ⟨fs, hret, hrun, hended, hW, hframe⟩ := X.leave (v := some (.int 1)) (hlocks := hlocks) (fun h => by rw [hr] at h; cases h)
  have hmeth' : T.vm.method? m = some meth := X.method'
  refine ⟨T.setFrames fs, ?_, .returned (some (.int 1)), hrun, hended, rfl, ⟨_, rfl⟩, hW, hframe⟩
  jvm_step X.here [X.here.top, hx, hb, hdg, hmeth', hr, ret, narrow_b1]
  (try refine ⟨rfl, ?_⟩); (try refine ⟨rfl, ?_⟩)
  first | (intro acts; rw [hret _ acts rfl rfl rfl]) | rw [hret _ _ rfl rfl rfl]
  exact Steps.refl _
/-- what holds at the law's entry: the machine, the code, the tables' words (any of lw_tbl by 'hts w (by decide +kernel)'), the script of L ints xs at the cell b, what the Statement gives of the start (any of its parts by flat_of_before) -/
def lw_At (p : Program) (s : State) (m : MethodId) (meth : Method) (c : Code) (b L : Nat) (xs : Nat → Int32) : Prop :=
  p.tables.exec = Jvm.exec ∧ c.code = code ∧ meth.sig.returnType = ret ∧ c.maxLocals = 4 ∧ s.vm.findClass R_law = some m.cls ∧ (∀ w ∈ lw_tbl, w.before #[Value.ref b] s = true) ∧ va_X b L xs s s.heap ∧ b < s.heap.size ∧ meth.locks = false ∧ (Jvm.Cond.and given_1 narrow_1).before #[Value.ref b] s = true
set_option maxHeartbeats 4000000 in
set_option maxRecDepth 100000 in
theorem law_loop {p : Program} {l : Launch} {e : Env} {s : State} {m : MethodId} {b L : Nat} {xs : Nat → Int32} {below : List Frame} {meth : Method} {c : Code} {dC : Nat → ClassId} {dI : Nat → Nat → Nat} {tC : Nat → ClassId} {q1 q2 : Nat} (h0 : LH p s m c b L xs dC dI tC) (hrt : meth.sig.returnType = ret) (hlocks : meth.locks = false) (hL : L ≤ 4096) (n : Nat) : ∀ (j : Nat), 8 * j ≤ L + 8 → L + 8 < 8 * (j + n) → ∀ {H : Heap} {locs : List Loc}, va_S (lA s) s.heap H locs → LInv s dC dI tC q1 q2 H → ∀ {ls : Array Slot}, lv_has ls 4 [(3, .int (jI ((8 * j : Nat) : Int))), (2, .ref q2), (1, .ref q1), (0, .ref b)] → W p l e room_1 s m #[Value.ref b] below meth c H locs (80 + 3 * j) (6100 + 43 * j) (lw_Z below #[Value.ref b] s) (F0 m 18 ls []) := by
  obtain ⟨hx, hb, hml, hown, hts, hX, hbl, hK, hN⟩ := id h0
  have hbA : ¬ lA s b := Nat.not_le.mpr hbl
  induction n with
  | zero => intro j h1 h2; omega
  | succ n ih =>
    intro j h1 h2 H locs hS hi ls hl
    refine lv_iload_n hx hb d_L_law_18 rfl (lv_at hl 0 rfl) ?_
    refine lv_aload_n hx hb d_L_law_19 rfl (lv_at hl 3 rfl) ?_
    refine va_slen hx hb hX hbl hbA hS d_L_law_20 ?_
    refine lv_bipush (v := 8) hx hb d_L_law_21 (by decide) ?_
    refine lv_isub hx hb d_L_law_23 ?_
    refine lv_icmp_gt (tgt := 1012) hx hb d_L_law_24 (by decide) (fun c1 => ?_) (fun c1 => ?_)
    · refine lv_iconst (v := 1) hx hb d_L_law_1012 (by decide) ?_
      refine va_forget (fun q hq => hS.2.2 q hq) ?_
      refine W.widen (k := 637990) (n := 7188278) (by omega) (by omega) ?_
      exact lw_ret hx hb hrt hlocks d_L_law_1013
    · have hj : 8 * j + 8 ≤ L := by
        rw [show (8 : Int32) = jI 8 from rfl, jI_n, jI_sub, jI_lt (by omega) (by omega) (by omega) (by omega)] at c1
        omega
      obtain ⟨i, hie⟩ : ∃ z, z = (jI ((8 * j : Nat) : Int)) := ⟨_, rfl⟩
      have hl : lv_has ls 4 [(3, .int i), (2, .ref q2), (1, .ref q1), (0, .ref b)] := by rw [hie]; exact hl
      have hr : ∀ k : Nat, k < 8 → vp_in (i + Int32.ofNat k) L := fun k hk => by
        rw [hie, jI_n, jI_add]
        exact ix_in (jx (by omega) (by omega) (by omega))
      have hr0 : vp_in i L := by
        rw [hie]
        exact ix_in (jx (by omega) (by omega) (by omega))
      have K : ∀ (H : Heap) (locs : List Loc), va_S (lA s) s.heap H locs → LInv s dC dI tC q1 q2 H → W p l e room_1 s m #[Value.ref b] below meth c H locs (80 + 3 * j + 3) (6100 + 43 * j + 43) (lw_Z below #[Value.ref b] s) (F0 m 1006 ls []) := by
        intro H locs hS hi
        refine lv_iinc (v := (jI ((8 * (j + 1) : Nat) : Int))) (lv' := [(3, .int (jI ((8 * (j + 1) : Nat) : Int))), (2, .ref q2), (1, .ref q1), (0, .ref b)]) hx hb d_L_law_1006 hl (k := 0) rfl (by rw [hie]; show jI _ + jI 8 = _; rw [jI_add]; congr 1) (by decide) rfl (fun ls hl => ?_)
        refine lv_goto (tgt := 18) hx hb d_L_law_1009 (by decide) ?_
        have h9 := ih (j + 1) (by omega) (by omega) hS hi hl
        rw [show 80 + 3 * (j + 1) = 80 + 3 * j + 3 by omega, show 6100 + 43 * (j + 1) = 6100 + 43 * j + 43 by omega] at h9
        exact h9
      refine lv_aload_n hx hb d_L_law_27 rfl (lv_at hl 3 rfl) ?_
      refine lv_iload_n hx hb d_L_law_28 rfl (lv_at hl 0 rfl) ?_
      refine va_sld hx hb hX hbl hbA hS hr0 d_L_law_29 ?_
      refine lv_bipush (v := 31) hx hb d_L_law_30 (by decide) ?_
      refine lv_iand hx hb d_L_law_32 ?_
      refine lv_topi (fun x ex => ?_)
      clear ex
      by_cases c10 : x = 0
      · refine lv_tableIn (tgt := 128) (off := 95) hx hb d_L_law_33 (by rw [c10]; decide) (by rw [c10]; decide) (by rw [c10]; decide) (by decide) ?_
        exact law_0 h0 hS hi hr (by omega) (by omega) hl K
      by_cases c11 : x = 1
      · refine lv_tableIn (tgt := 151) (off := 118) hx hb d_L_law_33 (by rw [c11]; decide) (by rw [c11]; decide) (by rw [c11]; decide) (by decide) ?_
        exact law_1 h0 hS hi hr (by omega) (by omega) hl K
      by_cases c12 : x = 2
      · refine lv_tableIn (tgt := 164) (off := 131) hx hb d_L_law_33 (by rw [c12]; decide) (by rw [c12]; decide) (by rw [c12]; decide) (by decide) ?_
        exact law_2 h0 hS hi hr (by omega) (by omega) hl K
      by_cases c13 : x = 3
      · refine lv_tableIn (tgt := 227) (off := 194) hx hb d_L_law_33 (by rw [c13]; decide) (by rw [c13]; decide) (by rw [c13]; decide) (by decide) ?_
        exact law_3 h0 hS hi hr (by omega) (by omega) hl K
      by_cases c14 : x = 4
      · refine lv_tableIn (tgt := 270) (off := 237) hx hb d_L_law_33 (by rw [c14]; decide) (by rw [c14]; decide) (by rw [c14]; decide) (by decide) ?_
        exact law_4 h0 hS hi hr (by omega) (by omega) hl K
      by_cases c15 : x = 5
      · refine lv_tableIn (tgt := 343) (off := 310) hx hb d_L_law_33 (by rw [c15]; decide) (by rw [c15]; decide) (by rw [c15]; decide) (by decide) ?_
        exact law_5 h0 hS hi hr (by omega) (by omega) hl K
      by_cases c16 : x = 6
      · refine lv_tableIn (tgt := 377) (off := 344) hx hb d_L_law_33 (by rw [c16]; decide) (by rw [c16]; decide) (by rw [c16]; decide) (by decide) ?_
        exact law_6 h0 hS hi hr (by omega) (by omega) hl K
      by_cases c17 : x = 7
      · refine lv_tableIn (tgt := 450) (off := 417) hx hb d_L_law_33 (by rw [c17]; decide) (by rw [c17]; decide) (by rw [c17]; decide) (by decide) ?_
        exact law_7 h0 hS hi hr (by omega) (by omega) hl K
      by_cases c18 : x = 8
      · refine lv_tableIn (tgt := 503) (off := 470) hx hb d_L_law_33 (by rw [c18]; decide) (by rw [c18]; decide) (by rw [c18]; decide) (by decide) ?_
        exact law_8 h0 hS hi hr (by omega) (by omega) hl K
      by_cases c19 : x = 9
      · refine lv_tableIn (tgt := 527) (off := 494) hx hb d_L_law_33 (by rw [c19]; decide) (by rw [c19]; decide) (by rw [c19]; decide) (by decide) ?_
        exact law_9 h0 hS hi hr (by omega) (by omega) hl K
      by_cases c20 : x = 10
      · refine lv_tableIn (tgt := 551) (off := 518) hx hb d_L_law_33 (by rw [c20]; decide) (by rw [c20]; decide) (by rw [c20]; decide) (by decide) ?_
        exact law_10 h0 hS hi hr (by omega) (by omega) hl K
      by_cases c21 : x = 11
      · refine lv_tableIn (tgt := 564) (off := 531) hx hb d_L_law_33 (by rw [c21]; decide) (by rw [c21]; decide) (by rw [c21]; decide) (by decide) ?_
        exact law_11 h0 hS hi hr (by omega) (by omega) hl K
      by_cases c22 : x = 12
      · refine lv_tableIn (tgt := 597) (off := 564) hx hb d_L_law_33 (by rw [c22]; decide) (by rw [c22]; decide) (by rw [c22]; decide) (by decide) ?_
        exact law_12 h0 hS hi hr (by omega) (by omega) hl K
      by_cases c23 : x = 13
      · refine lv_tableIn (tgt := 744) (off := 711) hx hb d_L_law_33 (by rw [c23]; decide) (by rw [c23]; decide) (by rw [c23]; decide) (by decide) ?_
        exact law_13 h0 hS hi hr (by omega) (by omega) hl K
      by_cases c24 : x = 14
      · refine lv_tableIn (tgt := 777) (off := 744) hx hb d_L_law_33 (by rw [c24]; decide) (by rw [c24]; decide) (by rw [c24]; decide) (by decide) ?_
        exact law_14 h0 hS hi hr (by omega) (by omega) hl K
      by_cases c25 : x = 15
      · refine lv_tableIn (tgt := 810) (off := 777) hx hb d_L_law_33 (by rw [c25]; decide) (by rw [c25]; decide) (by rw [c25]; decide) (by decide) ?_
        exact law_15 h0 hS hi hr (by omega) (by omega) hl K
      by_cases c26 : x = 16
      · refine lv_tableIn (tgt := 873) (off := 840) hx hb d_L_law_33 (by rw [c26]; decide) (by rw [c26]; decide) (by rw [c26]; decide) (by decide) ?_
        exact law_16 h0 hS hi hr (by omega) (by omega) hl K
      by_cases c27 : x = 17
      · refine lv_tableIn (tgt := 907) (off := 874) hx hb d_L_law_33 (by rw [c27]; decide) (by rw [c27]; decide) (by rw [c27]; decide) (by decide) ?_
        exact law_17 h0 hS hi hr (by omega) (by omega) hl K
      by_cases c28 : x = 18
      · refine lv_tableIn (tgt := 940) (off := 907) hx hb d_L_law_33 (by rw [c28]; decide) (by rw [c28]; decide) (by rw [c28]; decide) (by decide) ?_
        exact law_18 h0 hS hi hr (by omega) (by omega) hl K
      by_cases c29 : x = 19
      · refine lv_tableIn (tgt := 983) (off := 950) hx hb d_L_law_33 (by rw [c29]; decide) (by rw [c29]; decide) (by rw [c29]; decide) (by decide) ?_
        exact law_19 h0 hS hi hr (by omega) (by omega) hl K
      have n10 := lv_neT c10 (a := 0) (by decide)
      have n11 := lv_neT c11 (a := 1) (by decide)
      have n12 := lv_neT c12 (a := 2) (by decide)
      have n13 := lv_neT c13 (a := 3) (by decide)
      have n14 := lv_neT c14 (a := 4) (by decide)
      have n15 := lv_neT c15 (a := 5) (by decide)
      have n16 := lv_neT c16 (a := 6) (by decide)
      have n17 := lv_neT c17 (a := 7) (by decide)
      have n18 := lv_neT c18 (a := 8) (by decide)
      have n19 := lv_neT c19 (a := 9) (by decide)
      have n20 := lv_neT c20 (a := 10) (by decide)
      have n21 := lv_neT c21 (a := 11) (by decide)
      have n22 := lv_neT c22 (a := 12) (by decide)
      have n23 := lv_neT c23 (a := 13) (by decide)
      have n24 := lv_neT c24 (a := 14) (by decide)
      have n25 := lv_neT c25 (a := 15) (by decide)
      have n26 := lv_neT c26 (a := 16) (by decide)
      have n27 := lv_neT c27 (a := 17) (by decide)
      have n28 := lv_neT c28 (a := 18) (by decide)
      have n29 := lv_neT c29 (a := 19) (by decide)
      refine lv_tableOut (tgt := 1006) hx hb d_L_law_33 (by omega) (by decide) ?_
      refine W.widen (k := 80 + 3 * j + 3) (n := 6100 + 43 * j + 43) (by omega) (by omega) ?_
      exact K _ _ hS hi
