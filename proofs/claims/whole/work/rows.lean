section
-- ===== PART A: goes FIRST, ahead of the names: the tables' words, and 'selects' of the private methods out of them =====
/-- a private method of a class that the tables say can be made, by its rows of tables_1 -/
def lw_okq (q : MethodName × Nat) : Prop := (q.1.cls ≠ "java/lang/invoke/MethodHandle" ∧ q.1.cls ≠ "java/lang/invoke/VarHandle") ∧ Cond.instantiable q.1.cls q.2 ∈ tables_1 ∧ Cond.privateMethod q.1 ∈ tables_1 ∧ Cond.instanceMethod q.1 ∈ tables_1
theorem lw_p0 : lw_okq (⟨"BarCutting", "lineAt", "(I)LBarCutting$Line;"⟩, 12) := ⟨⟨by decide +kernel, by decide +kernel⟩, List.mem_of_getElem? (i := 14) (by decide +kernel), List.mem_of_getElem? (i := 333) (by decide +kernel), List.mem_of_getElem? (i := 334) (by decide +kernel)⟩
theorem lw_p1 : lw_okq (⟨"BarCutting", "cutLength", "(LBarCutting$Line;)I"⟩, 12) := ⟨⟨by decide +kernel, by decide +kernel⟩, List.mem_of_getElem? (i := 14) (by decide +kernel), List.mem_of_getElem? (i := 343) (by decide +kernel), List.mem_of_getElem? (i := 344) (by decide +kernel)⟩
theorem lw_p2 : lw_okq (⟨"BarCutting", "cutDiameter", "(II)Z"⟩, 12) := ⟨⟨by decide +kernel, by decide +kernel⟩, List.mem_of_getElem? (i := 14) (by decide +kernel), List.mem_of_getElem? (i := 389) (by decide +kernel), List.mem_of_getElem? (i := 390) (by decide +kernel)⟩
theorem lw_p3 : lw_okq (⟨"BarCutting", "gatherPieces", "(II)Z"⟩, 12) := ⟨⟨by decide +kernel, by decide +kernel⟩, List.mem_of_getElem? (i := 14) (by decide +kernel), List.mem_of_getElem? (i := 393) (by decide +kernel), List.mem_of_getElem? (i := 394) (by decide +kernel)⟩
theorem lw_p4 : lw_okq (⟨"BarCutting$FirstFit", "leastKindFor", "(LBarCutting$Shelf;I)I"⟩, 1) := ⟨⟨by decide +kernel, by decide +kernel⟩, List.mem_of_getElem? (i := 141) (by decide +kernel), List.mem_of_getElem? (i := 411) (by decide +kernel), List.mem_of_getElem? (i := 412) (by decide +kernel)⟩
theorem lw_p5 : lw_okq (⟨"BarCutting$LeastWaste", "sumSets", "(LBarCutting$Plan;II)V"⟩, 11) := ⟨⟨by decide +kernel, by decide +kernel⟩, List.mem_of_getElem? (i := 101) (by decide +kernel), List.mem_of_getElem? (i := 428) (by decide +kernel), List.mem_of_getElem? (i := 429) (by decide +kernel)⟩
theorem lw_p6 : lw_okq (⟨"BarCutting$LeastWaste", "findFloors", "(I)V"⟩, 11) := ⟨⟨by decide +kernel, by decide +kernel⟩, List.mem_of_getElem? (i := 101) (by decide +kernel), List.mem_of_getElem? (i := 432) (by decide +kernel), List.mem_of_getElem? (i := 433) (by decide +kernel)⟩
theorem lw_p7 : lw_okq (⟨"BarCutting$LeastWaste", "costOfCheapestBar", "(I)I"⟩, 11) := ⟨⟨by decide +kernel, by decide +kernel⟩, List.mem_of_getElem? (i := 101) (by decide +kernel), List.mem_of_getElem? (i := 440) (by decide +kernel), List.mem_of_getElem? (i := 441) (by decide +kernel)⟩
theorem lw_p8 : lw_okq (⟨"BarCutting$LeastWaste", "costOfBar", "(I)I"⟩, 11) := ⟨⟨by decide +kernel, by decide +kernel⟩, List.mem_of_getElem? (i := 101) (by decide +kernel), List.mem_of_getElem? (i := 444) (by decide +kernel), List.mem_of_getElem? (i := 445) (by decide +kernel)⟩
theorem lw_p9 : lw_okq (⟨"BarCutting$LeastWaste", "search", "(III)V"⟩, 11) := ⟨⟨by decide +kernel, by decide +kernel⟩, List.mem_of_getElem? (i := 101) (by decide +kernel), List.mem_of_getElem? (i := 451) (by decide +kernel), List.mem_of_getElem? (i := 452) (by decide +kernel)⟩
theorem lw_p10 : lw_okq (⟨"BarCutting$LeastWaste", "keep", "(II)V"⟩, 11) := ⟨⟨by decide +kernel, by decide +kernel⟩, List.mem_of_getElem? (i := 101) (by decide +kernel), List.mem_of_getElem? (i := 455) (by decide +kernel), List.mem_of_getElem? (i := 456) (by decide +kernel)⟩
theorem lw_p11 : lw_okq (⟨"BarCutting$LeastWaste", "searchRows", "(III)V"⟩, 11) := ⟨⟨by decide +kernel, by decide +kernel⟩, List.mem_of_getElem? (i := 101) (by decide +kernel), List.mem_of_getElem? (i := 459) (by decide +kernel), List.mem_of_getElem? (i := 460) (by decide +kernel)⟩
theorem lw_p12 : lw_okq (⟨"BarCutting$LeastWaste", "writeBest", "(LBarCutting$Plan;II)Z"⟩, 11) := ⟨⟨by decide +kernel, by decide +kernel⟩, List.mem_of_getElem? (i := 101) (by decide +kernel), List.mem_of_getElem? (i := 463) (by decide +kernel), List.mem_of_getElem? (i := 464) (by decide +kernel)⟩
theorem lw_p13 : lw_okq (⟨"BarCutting$Track", "go", "(IIZ)V"⟩, 8) := ⟨⟨by decide +kernel, by decide +kernel⟩, List.mem_of_getElem? (i := 151) (by decide +kernel), List.mem_of_getElem? (i := 522) (by decide +kernel), List.mem_of_getElem? (i := 523) (by decide +kernel)⟩
theorem lw_p14 : lw_okq (⟨"BarCutting", "linesBentBefore", "(I)I"⟩, 12) := ⟨⟨by decide +kernel, by decide +kernel⟩, List.mem_of_getElem? (i := 14) (by decide +kernel), List.mem_of_getElem? (i := 581) (by decide +kernel), List.mem_of_getElem? (i := 582) (by decide +kernel)⟩
theorem lw_p15 : lw_okq (⟨"BarCutting", "isBentBefore", "(II)Z"⟩, 12) := ⟨⟨by decide +kernel, by decide +kernel⟩, List.mem_of_getElem? (i := 14) (by decide +kernel), List.mem_of_getElem? (i := 585) (by decide +kernel), List.mem_of_getElem? (i := 586) (by decide +kernel)⟩
def lw_privs_1 : List (MethodName × Nat) := [(⟨"BarCutting", "lineAt", "(I)LBarCutting$Line;"⟩, 12), (⟨"BarCutting", "cutLength", "(LBarCutting$Line;)I"⟩, 12), (⟨"BarCutting", "cutDiameter", "(II)Z"⟩, 12), (⟨"BarCutting", "gatherPieces", "(II)Z"⟩, 12), (⟨"BarCutting$FirstFit", "leastKindFor", "(LBarCutting$Shelf;I)I"⟩, 1), (⟨"BarCutting$LeastWaste", "sumSets", "(LBarCutting$Plan;II)V"⟩, 11), (⟨"BarCutting$LeastWaste", "findFloors", "(I)V"⟩, 11), (⟨"BarCutting$LeastWaste", "costOfCheapestBar", "(I)I"⟩, 11), (⟨"BarCutting$LeastWaste", "costOfBar", "(I)I"⟩, 11), (⟨"BarCutting$LeastWaste", "search", "(III)V"⟩, 11), (⟨"BarCutting$LeastWaste", "keep", "(II)V"⟩, 11), (⟨"BarCutting$LeastWaste", "searchRows", "(III)V"⟩, 11), (⟨"BarCutting$LeastWaste", "writeBest", "(LBarCutting$Plan;II)Z"⟩, 11), (⟨"BarCutting$Track", "go", "(IIZ)V"⟩, 8), (⟨"BarCutting", "linesBentBefore", "(I)I"⟩, 12), (⟨"BarCutting", "isBentBefore", "(II)Z"⟩, 12)]
theorem lw_r1 : ∀ q ∈ lw_privs_1, lw_okq q := List.forall_mem_cons.mpr ⟨lw_p0, List.forall_mem_cons.mpr ⟨lw_p1, List.forall_mem_cons.mpr ⟨lw_p2, List.forall_mem_cons.mpr ⟨lw_p3, List.forall_mem_cons.mpr ⟨lw_p4, List.forall_mem_cons.mpr ⟨lw_p5, List.forall_mem_cons.mpr ⟨lw_p6, List.forall_mem_cons.mpr ⟨lw_p7, List.forall_mem_cons.mpr ⟨lw_p8, List.forall_mem_cons.mpr ⟨lw_p9, List.forall_mem_cons.mpr ⟨lw_p10, List.forall_mem_cons.mpr ⟨lw_p11, List.forall_mem_cons.mpr ⟨lw_p12, List.forall_mem_cons.mpr ⟨lw_p13, List.forall_mem_cons.mpr ⟨lw_p14, List.forall_mem_cons.mpr ⟨lw_p15, fun _ h => absurd h List.not_mem_nil⟩⟩⟩⟩⟩⟩⟩⟩⟩⟩⟩⟩⟩⟩⟩⟩
theorem lw_p16 : lw_okq (⟨"BarCuttingModel", "isLine", "(I)Z"⟩, 46) := ⟨⟨by decide +kernel, by decide +kernel⟩, List.mem_of_getElem? (i := 589) (by decide +kernel), List.mem_of_getElem? (i := 767) (by decide +kernel), List.mem_of_getElem? (i := 768) (by decide +kernel)⟩
theorem lw_p17 : lw_okq (⟨"BarCuttingModel", "lengthOf", "(I)J"⟩, 46) := ⟨⟨by decide +kernel, by decide +kernel⟩, List.mem_of_getElem? (i := 589) (by decide +kernel), List.mem_of_getElem? (i := 783) (by decide +kernel), List.mem_of_getElem? (i := 784) (by decide +kernel)⟩
theorem lw_p18 : lw_okq (⟨"BarCuttingModel", "sumOf", "(I)J"⟩, 46) := ⟨⟨by decide +kernel, by decide +kernel⟩, List.mem_of_getElem? (i := 589) (by decide +kernel), List.mem_of_getElem? (i := 787) (by decide +kernel), List.mem_of_getElem? (i := 788) (by decide +kernel)⟩
theorem lw_p19 : lw_okq (⟨"BarCuttingModel", "findPieces", "(I)V"⟩, 46) := ⟨⟨by decide +kernel, by decide +kernel⟩, List.mem_of_getElem? (i := 589) (by decide +kernel), List.mem_of_getElem? (i := 797) (by decide +kernel), List.mem_of_getElem? (i := 798) (by decide +kernel)⟩
theorem lw_p20 : lw_okq (⟨"BarCuttingModel", "cutBest", "(I)Z"⟩, 46) := ⟨⟨by decide +kernel, by decide +kernel⟩, List.mem_of_getElem? (i := 589) (by decide +kernel), List.mem_of_getElem? (i := 801) (by decide +kernel), List.mem_of_getElem? (i := 802) (by decide +kernel)⟩
theorem lw_p21 : lw_okq (⟨"BarCuttingModel", "firstOf", "(I)I"⟩, 46) := ⟨⟨by decide +kernel, by decide +kernel⟩, List.mem_of_getElem? (i := 589) (by decide +kernel), List.mem_of_getElem? (i := 805) (by decide +kernel), List.mem_of_getElem? (i := 806) (by decide +kernel)⟩
theorem lw_p22 : lw_okq (⟨"BarCuttingModel", "lengthOfSet", "(I)J"⟩, 46) := ⟨⟨by decide +kernel, by decide +kernel⟩, List.mem_of_getElem? (i := 589) (by decide +kernel), List.mem_of_getElem? (i := 809) (by decide +kernel), List.mem_of_getElem? (i := 810) (by decide +kernel)⟩
theorem lw_p23 : lw_okq (⟨"BarCuttingModel", "openBar", "(II)V"⟩, 46) := ⟨⟨by decide +kernel, by decide +kernel⟩, List.mem_of_getElem? (i := 589) (by decide +kernel), List.mem_of_getElem? (i := 813) (by decide +kernel), List.mem_of_getElem? (i := 814) (by decide +kernel)⟩
theorem lw_p24 : lw_okq (⟨"BarCuttingModel", "put", "(II)V"⟩, 46) := ⟨⟨by decide +kernel, by decide +kernel⟩, List.mem_of_getElem? (i := 589) (by decide +kernel), List.mem_of_getElem? (i := 817) (by decide +kernel), List.mem_of_getElem? (i := 818) (by decide +kernel)⟩
theorem lw_p25 : lw_okq (⟨"BarCuttingModel", "cutInTurn", "(I)Z"⟩, 46) := ⟨⟨by decide +kernel, by decide +kernel⟩, List.mem_of_getElem? (i := 589) (by decide +kernel), List.mem_of_getElem? (i := 821) (by decide +kernel), List.mem_of_getElem? (i := 822) (by decide +kernel)⟩
theorem lw_p26 : lw_okq (⟨"BarCuttingModel", "kindFor", "(IJ)I"⟩, 46) := ⟨⟨by decide +kernel, by decide +kernel⟩, List.mem_of_getElem? (i := 589) (by decide +kernel), List.mem_of_getElem? (i := 825) (by decide +kernel), List.mem_of_getElem? (i := 826) (by decide +kernel)⟩
theorem lw_p27 : lw_okq (⟨"BarCuttingModel", "piecesTogether", "()J"⟩, 46) := ⟨⟨by decide +kernel, by decide +kernel⟩, List.mem_of_getElem? (i := 589) (by decide +kernel), List.mem_of_getElem? (i := 833) (by decide +kernel), List.mem_of_getElem? (i := 834) (by decide +kernel)⟩
theorem lw_p28 : lw_okq (⟨"BarCuttingModel", "isTold", "(I)Z"⟩, 46) := ⟨⟨by decide +kernel, by decide +kernel⟩, List.mem_of_getElem? (i := 589) (by decide +kernel), List.mem_of_getElem? (i := 859) (by decide +kernel), List.mem_of_getElem? (i := 860) (by decide +kernel)⟩
theorem lw_p29 : lw_okq (⟨"BarCuttingModel", "draw", "(I)V"⟩, 46) := ⟨⟨by decide +kernel, by decide +kernel⟩, List.mem_of_getElem? (i := 589) (by decide +kernel), List.mem_of_getElem? (i := 863) (by decide +kernel), List.mem_of_getElem? (i := 864) (by decide +kernel)⟩
theorem lw_p30 : lw_okq (⟨"BarCuttingModel", "go", "(IJZ)V"⟩, 46) := ⟨⟨by decide +kernel, by decide +kernel⟩, List.mem_of_getElem? (i := 589) (by decide +kernel), List.mem_of_getElem? (i := 868) (by decide +kernel), List.mem_of_getElem? (i := 869) (by decide +kernel)⟩
theorem lw_p31 : lw_okq (⟨"BarCuttingModel", "stretches", "(II)I"⟩, 46) := ⟨⟨by decide +kernel, by decide +kernel⟩, List.mem_of_getElem? (i := 589) (by decide +kernel), List.mem_of_getElem? (i := 876) (by decide +kernel), List.mem_of_getElem? (i := 877) (by decide +kernel)⟩
def lw_privs_2 : List (MethodName × Nat) := [(⟨"BarCuttingModel", "isLine", "(I)Z"⟩, 46), (⟨"BarCuttingModel", "lengthOf", "(I)J"⟩, 46), (⟨"BarCuttingModel", "sumOf", "(I)J"⟩, 46), (⟨"BarCuttingModel", "findPieces", "(I)V"⟩, 46), (⟨"BarCuttingModel", "cutBest", "(I)Z"⟩, 46), (⟨"BarCuttingModel", "firstOf", "(I)I"⟩, 46), (⟨"BarCuttingModel", "lengthOfSet", "(I)J"⟩, 46), (⟨"BarCuttingModel", "openBar", "(II)V"⟩, 46), (⟨"BarCuttingModel", "put", "(II)V"⟩, 46), (⟨"BarCuttingModel", "cutInTurn", "(I)Z"⟩, 46), (⟨"BarCuttingModel", "kindFor", "(IJ)I"⟩, 46), (⟨"BarCuttingModel", "piecesTogether", "()J"⟩, 46), (⟨"BarCuttingModel", "isTold", "(I)Z"⟩, 46), (⟨"BarCuttingModel", "draw", "(I)V"⟩, 46), (⟨"BarCuttingModel", "go", "(IJZ)V"⟩, 46), (⟨"BarCuttingModel", "stretches", "(II)I"⟩, 46)]
theorem lw_r2 : ∀ q ∈ lw_privs_2, lw_okq q := List.forall_mem_cons.mpr ⟨lw_p16, List.forall_mem_cons.mpr ⟨lw_p17, List.forall_mem_cons.mpr ⟨lw_p18, List.forall_mem_cons.mpr ⟨lw_p19, List.forall_mem_cons.mpr ⟨lw_p20, List.forall_mem_cons.mpr ⟨lw_p21, List.forall_mem_cons.mpr ⟨lw_p22, List.forall_mem_cons.mpr ⟨lw_p23, List.forall_mem_cons.mpr ⟨lw_p24, List.forall_mem_cons.mpr ⟨lw_p25, List.forall_mem_cons.mpr ⟨lw_p26, List.forall_mem_cons.mpr ⟨lw_p27, List.forall_mem_cons.mpr ⟨lw_p28, List.forall_mem_cons.mpr ⟨lw_p29, List.forall_mem_cons.mpr ⟨lw_p30, List.forall_mem_cons.mpr ⟨lw_p31, fun _ h => absurd h List.not_mem_nil⟩⟩⟩⟩⟩⟩⟩⟩⟩⟩⟩⟩⟩⟩⟩⟩
theorem lw_p32 : lw_okq (⟨"BarCuttingModel", "sign", "(I)V"⟩, 46) := ⟨⟨by decide +kernel, by decide +kernel⟩, List.mem_of_getElem? (i := 589) (by decide +kernel), List.mem_of_getElem? (i := 897) (by decide +kernel), List.mem_of_getElem? (i := 898) (by decide +kernel)⟩
theorem lw_p33 : lw_okq (⟨"BarCuttingModel", "differ", "(III)Z"⟩, 46) := ⟨⟨by decide +kernel, by decide +kernel⟩, List.mem_of_getElem? (i := 589) (by decide +kernel), List.mem_of_getElem? (i := 905) (by decide +kernel), List.mem_of_getElem? (i := 906) (by decide +kernel)⟩
theorem lw_p34 : lw_okq (⟨"BarCuttingModel", "isBentBefore", "(II)Z"⟩, 46) := ⟨⟨by decide +kernel, by decide +kernel⟩, List.mem_of_getElem? (i := 589) (by decide +kernel), List.mem_of_getElem? (i := 913) (by decide +kernel), List.mem_of_getElem? (i := 914) (by decide +kernel)⟩
def lw_privs_3 : List (MethodName × Nat) := [(⟨"BarCuttingModel", "sign", "(I)V"⟩, 46), (⟨"BarCuttingModel", "differ", "(III)Z"⟩, 46), (⟨"BarCuttingModel", "isBentBefore", "(II)Z"⟩, 46)]
theorem lw_r3 : ∀ q ∈ lw_privs_3, lw_okq q := List.forall_mem_cons.mpr ⟨lw_p32, List.forall_mem_cons.mpr ⟨lw_p33, List.forall_mem_cons.mpr ⟨lw_p34, fun _ h => absurd h List.not_mem_nil⟩⟩⟩
def lw_privs : List (MethodName × Nat) := lw_privs_1 ++ (lw_privs_2 ++ (lw_privs_3))
def lw_tbl : List Cond := k2_sels lw_privs ++ tables_1
theorem lw_privs_ok : ∀ q ∈ lw_privs, lw_okq q := by
  show ∀ q ∈ lw_privs_1 ++ (lw_privs_2 ++ (lw_privs_3)), lw_okq q
  exact List.forall_mem_append.mpr ⟨lw_r1, List.forall_mem_append.mpr ⟨lw_r2, lw_r3⟩⟩
end
section
/-! names, by program (wip/gen/names.py) -/
def gw : List Cond := lw_tbl.filter goodWord
def wsO (y : MethodName) (c : ByteArray) (n : Nat) (r : Option FieldType) : List Cond := .code y c n r :: gw
theorem gw_at {w : Cond} (i : Nat) (h : tables_1[i]? = some w) (g : goodWord w = true) : w ∈ gw := List.mem_filter.mpr ⟨List.mem_append_right _ (List.mem_of_getElem? h), g⟩
theorem gw_pr {w : Cond} (i : Nat) (h : (k2_sels lw_privs)[i]? = some w) (g : goodWord w = true) : w ∈ gw := List.mem_filter.mpr ⟨List.mem_append_left _ (List.mem_of_getElem? h), g⟩
theorem gw_sub (ws : List Cond) (ps : List Nat) (hp : ws = ps.filterMap (fun i => tables_1[i]?)) (hg : ws.all goodWord = true) : ∀ w ∈ ws, w ∈ gw := by
  intro w hw
  have h1 := List.all_eq_true.mp hg w hw
  rw [hp] at hw
  obtain ⟨i, -, hi⟩ := List.mem_filterMap.mp hw
  exact gw_at i hi h1
theorem gw_good {w : Cond} (h : w ∈ gw) : (w.onTables && w.keeps) = true ∨ ∃ ty, w = .arrayClass ty := good_of_word (List.mem_filter.mp h).2
theorem gd_O {x y : MethodName} {cx cy : ByteArray} {nx ny : Nat} {rx ry : Option FieldType} (h : Cond.code y cy ny ry ∈ gw) : GoodIn (wsO x cx nx rx) (wsO y cy ny ry) := by
  intro w hw
  rcases List.mem_cons.mp hw with rfl | hw
  · exact ⟨List.mem_cons_of_mem _ h, gw_good h⟩
  · exact ⟨List.mem_cons_of_mem _ hw, gw_good hw⟩
theorem gd_V {x y : MethodName} {cx cy : ByteArray} {nx ny : Nat} {rx ry : Option FieldType} {own C : String} {ix : Nat} (h1 : Cond.methodLink own ix y ∈ gw) (h2 : Cond.instanceMethod y ∈ gw) (h3 : Cond.selects C y y ∈ gw) (h4 : Cond.initialized C ∈ gw) (h : Cond.code y cy ny ry ∈ gw) : GoodIn (wsO x cx nx rx) (wsV own ix C y (wsO y cy ny ry)) := by
  intro w hw
  rcases List.mem_append.mp hw with hw | hw
  · have hg : w ∈ gw := by
      rcases List.mem_cons.mp hw with rfl | hw
      · exact h1
      rcases List.mem_cons.mp hw with rfl | hw
      · exact h2
      rcases List.mem_cons.mp hw with rfl | hw
      · exact h3
      rcases List.mem_cons.mp hw with rfl | hw
      · exact h4
      cases hw
    exact ⟨List.mem_cons_of_mem _ hg, gw_good hg⟩
  · exact gd_O h w hw
theorem gd_S {x y : MethodName} {cx cy : ByteArray} {nx ny : Nat} {rx ry : Option FieldType} {own : String} {ix : Nat} (h1 : Cond.methodLink own ix y ∈ gw) (h2 : Cond.static y ∈ gw) (h3 : Cond.initialized own ∈ gw) (h : Cond.code y cy ny ry ∈ gw) : GoodIn (wsO x cx nx rx) (wsS own ix y (wsO y cy ny ry)) := by
  intro w hw
  rcases List.mem_append.mp hw with hw | hw
  · have hg : w ∈ gw := by
      rcases List.mem_cons.mp hw with rfl | hw
      · exact h1
      rcases List.mem_cons.mp hw with rfl | hw
      · exact h2
      rcases List.mem_cons.mp hw with rfl | hw
      · exact h3
      cases hw
    exact ⟨List.mem_cons_of_mem _ hg, gw_good hg⟩
  · exact gd_O h w hw
def RX0 : String := "BarCutting$FirstFit"
def TX0 : u_T := fun k => match k with
  | _ => ("BarCutting$FirstFit", "left", "[I", true)
def tyX0 : Nat → FieldType := fun k => match k with
  | _ => .array .int
theorem nmX0 : ∀ a, a < 1 → ∀ b, b < 1 → a ≠ b → (TX0 a).2.1 ≠ (TX0 b).2.1 := by decide +kernel
theorem tyX0_ok : ∀ k, k < 1 → parseFieldDescriptor (TX0 k).2.2.1 = some (tyX0 k) := by decide +kernel
def RX1 : String := "BarCutting$LeastWaste"
def TX1 : u_T := fun k => match k with
  | 0 => ("BarCutting$LeastWaste", "sums", "[I", true)
  | 1 => ("BarCutting$LeastWaste", "floors", "[I", true)
  | 2 => ("BarCutting$LeastWaste", "sizes", "[I", true)
  | 3 => ("BarCutting$LeastWaste", "left", "[I", true)
  | 4 => ("BarCutting$LeastWaste", "kindOfBar", "[I", true)
  | 5 => ("BarCutting$LeastWaste", "rowOfBar", "[I", true)
  | 6 => ("BarCutting$LeastWaste", "bestKindOfBar", "[I", true)
  | 7 => ("BarCutting$LeastWaste", "bestRowOfBar", "[I", true)
  | 8 => ("BarCutting$LeastWaste", "kinds", "I", false)
  | 9 => ("BarCutting$LeastWaste", "best", "I", false)
  | _ => ("BarCutting$LeastWaste", "bestBars", "I", false)
def tyX1 : Nat → FieldType := fun k => match k with
  | 0 => .array .int
  | 1 => .array .int
  | 2 => .array .int
  | 3 => .array .int
  | 4 => .array .int
  | 5 => .array .int
  | 6 => .array .int
  | 7 => .array .int
  | 8 => .int
  | 9 => .int
  | _ => .int
theorem nmX1 : ∀ a, a < 11 → ∀ b, b < 11 → a ≠ b → (TX1 a).2.1 ≠ (TX1 b).2.1 := by decide +kernel
theorem tyX1_ok : ∀ k, k < 11 → parseFieldDescriptor (TX1 k).2.2.1 = some (tyX1 k) := by decide +kernel
def RX2 : String := "BarCutting$Line"
def TX2 : u_T := fun k => match k with
  | 0 => ("BarCutting$Line", "shapeNumber", "I", true)
  | 1 => ("BarCutting$Line", "shape", "LBarCutting$Shape;", true)
  | 2 => ("BarCutting$Line", "diameter", "I", true)
  | 3 => ("BarCutting$Line", "bars", "I", true)
  | 4 => ("BarCutting$Line", "legs", "[I", true)
  | 5 => ("BarCutting$Line", "placed", "Z", false)
  | 6 => ("BarCutting$Line", "x", "I", false)
  | 7 => ("BarCutting$Line", "y", "I", false)
  | _ => ("BarCutting$Line", "z", "I", false)
def tyX2 : Nat → FieldType := fun k => match k with
  | 0 => .int
  | 1 => .object "BarCutting$Shape"
  | 2 => .int
  | 3 => .int
  | 4 => .array .int
  | 5 => .boolean
  | 6 => .int
  | 7 => .int
  | _ => .int
theorem nmX2 : ∀ a, a < 9 → ∀ b, b < 9 → a ≠ b → (TX2 a).2.1 ≠ (TX2 b).2.1 := by decide +kernel
theorem tyX2_ok : ∀ k, k < 9 → parseFieldDescriptor (TX2 k).2.2.1 = some (tyX2 k) := by decide +kernel
def RX3 : String := "BarCutting$Plan"
def TX3 : u_T := fun k => match k with
  | 0 => ("BarCutting$Plan", "pieceLine", "[I", true)
  | 1 => ("BarCutting$Plan", "pieceSize", "[I", true)
  | 2 => ("BarCutting$Plan", "pieceBar", "[I", true)
  | 3 => ("BarCutting$Plan", "barDiameter", "[I", true)
  | 4 => ("BarCutting$Plan", "barSize", "[I", true)
  | 5 => ("BarCutting$Plan", "barRoom", "[I", true)
  | 6 => ("BarCutting$Plan", "barPieces", "[I", true)
  | 7 => ("BarCutting$Plan", "pieces", "I", false)
  | 8 => ("BarCutting$Plan", "bars", "I", false)
  | 9 => ("BarCutting$Plan", "diameters", "I", false)
  | 10 => ("BarCutting$Plan", "leastWasteDiameters", "I", false)
  | _ => ("BarCutting$Plan", "done", "Z", false)
def tyX3 : Nat → FieldType := fun k => match k with
  | 0 => .array .int
  | 1 => .array .int
  | 2 => .array .int
  | 3 => .array .int
  | 4 => .array .int
  | 5 => .array .int
  | 6 => .array .int
  | 7 => .int
  | 8 => .int
  | 9 => .int
  | 10 => .int
  | _ => .boolean
theorem nmX3 : ∀ a, a < 12 → ∀ b, b < 12 → a ≠ b → (TX3 a).2.1 ≠ (TX3 b).2.1 := by decide +kernel
theorem tyX3_ok : ∀ k, k < 12 → parseFieldDescriptor (TX3 k).2.2.1 = some (tyX3 k) := by decide +kernel
def RX4 : String := "BarCutting$Shape"
def TX4 : u_T := fun k => match k with
  | 0 => ("BarCutting$Shape", "text", "[C", true)
  | 1 => ("BarCutting$Shape", "legs", "I", true)
  | _ => ("BarCutting$Shape", "quarters", "I", true)
def tyX4 : Nat → FieldType := fun k => match k with
  | 0 => .array .char
  | 1 => .int
  | _ => .int
theorem nmX4 : ∀ a, a < 3 → ∀ b, b < 3 → a ≠ b → (TX4 a).2.1 ≠ (TX4 b).2.1 := by decide +kernel
theorem tyX4_ok : ∀ k, k < 3 → parseFieldDescriptor (TX4 k).2.2.1 = some (tyX4 k) := by decide +kernel
def RX5 : String := "BarCutting$Shelf"
def TX5 : u_T := fun k => match k with
  | 0 => ("BarCutting$Shelf", "sizes", "[I", true)
  | 1 => ("BarCutting$Shelf", "bars", "[I", true)
  | _ => ("BarCutting$Shelf", "kinds", "I", false)
def tyX5 : Nat → FieldType := fun k => match k with
  | 0 => .array .int
  | 1 => .array .int
  | _ => .int
theorem nmX5 : ∀ a, a < 3 → ∀ b, b < 3 → a ≠ b → (TX5 a).2.1 ≠ (TX5 b).2.1 := by decide +kernel
theorem tyX5_ok : ∀ k, k < 3 → parseFieldDescriptor (TX5 k).2.2.1 = some (tyX5 k) := by decide +kernel
def RX6 : String := "BarCutting$Signs"
def TX6 : u_T := fun k => match k with
  | 0 => ("BarCutting$Signs", "row", "[C", true)
  | _ => ("BarCutting$Signs", "count", "I", false)
def tyX6 : Nat → FieldType := fun k => match k with
  | 0 => .array .char
  | _ => .int
theorem nmX6 : ∀ a, a < 2 → ∀ b, b < 2 → a ≠ b → (TX6 a).2.1 ≠ (TX6 b).2.1 := by decide +kernel
theorem tyX6_ok : ∀ k, k < 2 → parseFieldDescriptor (TX6 k).2.2.1 = some (tyX6 k) := by decide +kernel
def RX7 : String := "BarCutting$Track"
def TX7 : u_T := fun k => match k with
  | 0 => ("BarCutting$Track", "fromX", "[I", true)
  | 1 => ("BarCutting$Track", "fromY", "[I", true)
  | 2 => ("BarCutting$Track", "stepX", "[I", true)
  | 3 => ("BarCutting$Track", "stepY", "[I", true)
  | 4 => ("BarCutting$Track", "isLeg", "[Z", true)
  | 5 => ("BarCutting$Track", "steps", "I", false)
  | 6 => ("BarCutting$Track", "x", "I", false)
  | _ => ("BarCutting$Track", "y", "I", false)
def tyX7 : Nat → FieldType := fun k => match k with
  | 0 => .array .int
  | 1 => .array .int
  | 2 => .array .int
  | 3 => .array .int
  | 4 => .array .boolean
  | 5 => .int
  | 6 => .int
  | _ => .int
theorem nmX7 : ∀ a, a < 8 → ∀ b, b < 8 → a ≠ b → (TX7 a).2.1 ≠ (TX7 b).2.1 := by decide +kernel
theorem tyX7_ok : ∀ k, k < 8 → parseFieldDescriptor (TX7 k).2.2.1 = some (tyX7 k) := by decide +kernel
def RX8 : String := "BarCutting"
def TX8 : u_T := fun k => match k with
  | 0 => ("BarCutting", "signs", "LBarCutting$Signs;", true)
  | 1 => ("BarCutting", "shapes", "[LBarCutting$Shape;", true)
  | 2 => ("BarCutting", "lines", "[LBarCutting$Line;", true)
  | 3 => ("BarCutting", "rules", "[I", true)
  | 4 => ("BarCutting", "shelves", "[LBarCutting$Shelf;", true)
  | 5 => ("BarCutting", "plan", "LBarCutting$Plan;", true)
  | 6 => ("BarCutting", "leastWaste", "LBarCutting$LeastWaste;", true)
  | 7 => ("BarCutting", "firstFit", "LBarCutting$FirstFit;", true)
  | 8 => ("BarCutting", "track", "LBarCutting$Track;", true)
  | 9 => ("BarCutting", "otherTrack", "LBarCutting$Track;", true)
  | 10 => ("BarCutting", "shapeCount", "I", false)
  | _ => ("BarCutting", "lineCount", "I", false)
def tyX8 : Nat → FieldType := fun k => match k with
  | 0 => .object "BarCutting$Signs"
  | 1 => .array (.object "BarCutting$Shape")
  | 2 => .array (.object "BarCutting$Line")
  | 3 => .array .int
  | 4 => .array (.object "BarCutting$Shelf")
  | 5 => .object "BarCutting$Plan"
  | 6 => .object "BarCutting$LeastWaste"
  | 7 => .object "BarCutting$FirstFit"
  | 8 => .object "BarCutting$Track"
  | 9 => .object "BarCutting$Track"
  | 10 => .int
  | _ => .int
theorem nmX8 : ∀ a, a < 12 → ∀ b, b < 12 → a ≠ b → (TX8 a).2.1 ≠ (TX8 b).2.1 := by decide +kernel
theorem tyX8_ok : ∀ k, k < 12 → parseFieldDescriptor (TX8 k).2.2.1 = some (tyX8 k) := by decide +kernel
def RX9 : String := "BarCuttingModel"
def TX9 : u_T := fun k => match k with
  | 0 => ("BarCuttingModel", "text", "[I", true)
  | 1 => ("BarCuttingModel", "size", "I", false)
  | 2 => ("BarCuttingModel", "shapes", "I", false)
  | 3 => ("BarCuttingModel", "legCount", "[I", true)
  | 4 => ("BarCuttingModel", "bends", "[I", true)
  | 5 => ("BarCuttingModel", "rules", "[J", true)
  | 6 => ("BarCuttingModel", "lines", "I", false)
  | 7 => ("BarCuttingModel", "shapeOf", "[I", true)
  | 8 => ("BarCuttingModel", "diameterOf", "[I", true)
  | 9 => ("BarCuttingModel", "manyOf", "[I", true)
  | 10 => ("BarCuttingModel", "legs", "[J", true)
  | 11 => ("BarCuttingModel", "placed", "[Z", true)
  | 12 => ("BarCuttingModel", "placeX", "[J", true)
  | 13 => ("BarCuttingModel", "placeY", "[J", true)
  | 14 => ("BarCuttingModel", "placeZ", "[J", true)
  | 15 => ("BarCuttingModel", "kinds", "[I", true)
  | 16 => ("BarCuttingModel", "kindLength", "[J", true)
  | 17 => ("BarCuttingModel", "kindMany", "[I", true)
  | 18 => ("BarCuttingModel", "left", "[I", true)
  | 19 => ("BarCuttingModel", "pieces", "I", false)
  | 20 => ("BarCuttingModel", "pieceLine", "[I", true)
  | 21 => ("BarCuttingModel", "pieceLength", "[J", true)
  | 22 => ("BarCuttingModel", "remains", "[I", true)
  | 23 => ("BarCuttingModel", "wayKind", "[I", true)
  | 24 => ("BarCuttingModel", "waySet", "[I", true)
  | 25 => ("BarCuttingModel", "bestKind", "[I", true)
  | 26 => ("BarCuttingModel", "bestSet", "[I", true)
  | 27 => ("BarCuttingModel", "cut", "Z", false)
  | 28 => ("BarCuttingModel", "bars", "I", false)
  | 29 => ("BarCuttingModel", "barDiameter", "[I", true)
  | 30 => ("BarCuttingModel", "barLength", "[J", true)
  | 31 => ("BarCuttingModel", "barMany", "[I", true)
  | 32 => ("BarCuttingModel", "barLines", "[I", true)
  | 33 => ("BarCuttingModel", "barRoom", "[J", true)
  | 34 => ("BarCuttingModel", "diameters", "I", false)
  | 35 => ("BarCuttingModel", "exact", "I", false)
  | 36 => ("BarCuttingModel", "pairs", "I", false)
  | 37 => ("BarCuttingModel", "goesX", "[J", true)
  | 38 => ("BarCuttingModel", "goesY", "[J", true)
  | 39 => ("BarCuttingModel", "isLeg", "[Z", true)
  | 40 => ("BarCuttingModel", "lowX", "[J", true)
  | 41 => ("BarCuttingModel", "highX", "[J", true)
  | 42 => ("BarCuttingModel", "lowY", "[J", true)
  | 43 => ("BarCuttingModel", "highY", "[J", true)
  | 44 => ("BarCuttingModel", "tagSigns", "[I", true)
  | _ => ("BarCuttingModel", "tagSize", "I", false)
def tyX9 : Nat → FieldType := fun k => match k with
  | 0 => .array .int
  | 1 => .int
  | 2 => .int
  | 3 => .array .int
  | 4 => .array .int
  | 5 => .array .long
  | 6 => .int
  | 7 => .array .int
  | 8 => .array .int
  | 9 => .array .int
  | 10 => .array .long
  | 11 => .array .boolean
  | 12 => .array .long
  | 13 => .array .long
  | 14 => .array .long
  | 15 => .array .int
  | 16 => .array .long
  | 17 => .array .int
  | 18 => .array .int
  | 19 => .int
  | 20 => .array .int
  | 21 => .array .long
  | 22 => .array .int
  | 23 => .array .int
  | 24 => .array .int
  | 25 => .array .int
  | 26 => .array .int
  | 27 => .boolean
  | 28 => .int
  | 29 => .array .int
  | 30 => .array .long
  | 31 => .array .int
  | 32 => .array .int
  | 33 => .array .long
  | 34 => .int
  | 35 => .int
  | 36 => .int
  | 37 => .array .long
  | 38 => .array .long
  | 39 => .array .boolean
  | 40 => .array .long
  | 41 => .array .long
  | 42 => .array .long
  | 43 => .array .long
  | 44 => .array .int
  | _ => .int
theorem nmX9 : ∀ a, a < 46 → ∀ b, b < 46 → a ≠ b → (TX9 a).2.1 ≠ (TX9 b).2.1 := by decide +kernel
theorem tyX9_ok : ∀ k, k < 46 → parseFieldDescriptor (TX9 k).2.2.1 = some (tyX9 k) := by decide +kernel
def RL : String := "BarCuttingLaw"
abbrev vwCl : List vw_C := [(RX0, TX0, 1), (RX1, TX1, 11), (RX2, TX2, 9), (RX3, TX3, 12), (RX4, TX4, 3), (RX5, TX5, 3), (RX6, TX6, 2), (RX7, TX7, 8), (RX8, TX8, 12), (RX9, TX9, 46)]
abbrev c_Bc_init : ByteArray := prog_1_method_1_code
def y_Bc_init : MethodName := ⟨RX8, "<init>", "()V"⟩
abbrev w_Bc_init : List Cond := wsO y_Bc_init c_Bc_init 1 none
abbrev c_Sg_init : ByteArray := prog_8_method_1_code
def y_Sg_init : MethodName := ⟨RX6, "<init>", "()V"⟩
abbrev w_Sg_init : List Cond := wsO y_Sg_init c_Sg_init 1 none
abbrev c_Pl_init : ByteArray := prog_5_method_1_code
def y_Pl_init : MethodName := ⟨RX3, "<init>", "()V"⟩
abbrev w_Pl_init : List Cond := wsO y_Pl_init c_Pl_init 1 none
abbrev c_Lw_init : ByteArray := prog_3_method_1_code
def y_Lw_init : MethodName := ⟨RX1, "<init>", "()V"⟩
abbrev w_Lw_init : List Cond := wsO y_Lw_init c_Lw_init 1 none
abbrev c_Ff_init : ByteArray := prog_2_method_1_code
def y_Ff_init : MethodName := ⟨RX0, "<init>", "()V"⟩
abbrev w_Ff_init : List Cond := wsO y_Ff_init c_Ff_init 1 none
abbrev c_Tr_init : ByteArray := prog_9_method_1_code
def y_Tr_init : MethodName := ⟨RX7, "<init>", "()V"⟩
abbrev w_Tr_init : List Cond := wsO y_Tr_init c_Tr_init 1 none
abbrev c_Bc_unit : ByteArray := prog_1_method_2_code
def y_Bc_unit : MethodName := ⟨RX8, "unit", "(I)Z"⟩
abbrev w_Bc_unit : List Cond := wsO y_Bc_unit c_Bc_unit 2 (some (.boolean))
abbrev c_Sg_collect : ByteArray := prog_8_method_2_code
def y_Sg_collect : MethodName := ⟨RX6, "collect", "(I)Z"⟩
abbrev w_Sg_collect : List Cond := wsO y_Sg_collect c_Sg_collect 2 (some (.boolean))
abbrev c_Bc_shape : ByteArray := prog_1_method_3_code
def y_Bc_shape : MethodName := ⟨RX8, "shape", "()I"⟩
abbrev w_Bc_shape : List Cond := wsO y_Bc_shape c_Bc_shape 4 (some (.int))
abbrev c_Sg_firstWrong : ByteArray := prog_8_method_3_code
def y_Sg_firstWrong : MethodName := ⟨RX6, "firstWrong", "()I"⟩
abbrev w_Sg_firstWrong : List Cond := wsO y_Sg_firstWrong c_Sg_firstWrong 3 (some (.int))
abbrev c_Sg_isLeg : ByteArray := prog_8_method_5_code
def y_Sg_isLeg : MethodName := ⟨RX6, "isLeg", "(II)Z"⟩
abbrev w_Sg_isLeg : List Cond := wsO y_Sg_isLeg c_Sg_isLeg 2 (some (.boolean))
abbrev c_Sg_quartersOf : ByteArray := prog_8_method_6_code
def y_Sg_quartersOf : MethodName := ⟨RX6, "quartersOf", "(I)I"⟩
abbrev w_Sg_quartersOf : List Cond := wsO y_Sg_quartersOf c_Sg_quartersOf 1 (some (.int))
abbrev c_Sg_toShape : ByteArray := prog_8_method_4_code
def y_Sg_toShape : MethodName := ⟨RX6, "toShape", "()LBarCutting$Shape;"⟩
abbrev w_Sg_toShape : List Cond := wsO y_Sg_toShape c_Sg_toShape 4 (some (.object "BarCutting$Shape"))
abbrev c_Sh_init : ByteArray := prog_6_method_1_code
def y_Sh_init : MethodName := ⟨RX4, "<init>", "([CI)V"⟩
abbrev w_Sh_init : List Cond := wsO y_Sh_init c_Sh_init 3 none
abbrev c_Bc_rule : ByteArray := prog_1_method_4_code
def y_Bc_rule : MethodName := ⟨RX8, "rule", "(IJ)Z"⟩
abbrev w_Bc_rule : List Cond := wsO y_Bc_rule c_Bc_rule 4 (some (.boolean))
abbrev c_Bc_isDiameter : ByteArray := prog_1_method_22_code
def y_Bc_isDiameter : MethodName := ⟨RX8, "isDiameter", "(I)Z"⟩
abbrev w_Bc_isDiameter : List Cond := wsO y_Bc_isDiameter c_Bc_isDiameter 1 (some (.boolean))
abbrev c_Pl_clear : ByteArray := prog_5_method_2_code
def y_Pl_clear : MethodName := ⟨RX3, "clear", "()V"⟩
abbrev w_Pl_clear : List Cond := wsO y_Pl_clear c_Pl_clear 1 none
abbrev c_Bc_bar : ByteArray := prog_1_method_5_code
def y_Bc_bar : MethodName := ⟨RX8, "bar", "(III)I"⟩
abbrev w_Bc_bar : List Cond := wsO y_Bc_bar c_Bc_bar 4 (some (.int))
abbrev c_Ln_init : ByteArray := prog_4_method_1_code
def y_Ln_init : MethodName := ⟨RX2, "<init>", "(ILBarCutting$Shape;II)V"⟩
abbrev w_Ln_init : List Cond := wsO y_Ln_init c_Ln_init 5 none
abbrev c_Bc_leg : ByteArray := prog_1_method_6_code
def y_Bc_leg : MethodName := ⟨RX8, "leg", "(IIJ)Z"⟩
abbrev w_Bc_leg : List Cond := wsO y_Bc_leg c_Bc_leg 6 (some (.boolean))
abbrev c_Bc_lineAt : ByteArray := prog_1_method_24_code
def y_Bc_lineAt : MethodName := ⟨RX8, "lineAt", "(I)LBarCutting$Line;"⟩
abbrev w_Bc_lineAt : List Cond := wsO y_Bc_lineAt c_Bc_lineAt 2 (some (.object "BarCutting$Line"))
abbrev c_Bc_length : ByteArray := prog_1_method_7_code
def y_Bc_length : MethodName := ⟨RX8, "length", "(II)J"⟩
abbrev w_Bc_length : List Cond := wsO y_Bc_length c_Bc_length 4 (some (.long))
abbrev c_Bc_cutLength : ByteArray := prog_1_method_25_code
def y_Bc_cutLength : MethodName := ⟨RX8, "cutLength", "(LBarCutting$Line;)I"⟩
abbrev w_Bc_cutLength : List Cond := wsO y_Bc_cutLength c_Bc_cutLength 3 (some (.int))
abbrev c_Ln_sumOfLegs : ByteArray := prog_4_method_2_code
def y_Ln_sumOfLegs : MethodName := ⟨RX2, "sumOfLegs", "()I"⟩
abbrev w_Ln_sumOfLegs : List Cond := wsO y_Ln_sumOfLegs c_Ln_sumOfLegs 3 (some (.int))
abbrev c_Bc_stock : ByteArray := prog_1_method_8_code
def y_Bc_stock : MethodName := ⟨RX8, "stock", "(IJI)Z"⟩
abbrev w_Bc_stock : List Cond := wsO y_Bc_stock c_Bc_stock 6 (some (.boolean))
abbrev c_Sf_init : ByteArray := prog_7_method_1_code
def y_Sf_init : MethodName := ⟨RX5, "<init>", "()V"⟩
abbrev w_Sf_init : List Cond := wsO y_Sf_init c_Sf_init 1 none
abbrev c_Sf_add : ByteArray := prog_7_method_2_code
def y_Sf_add : MethodName := ⟨RX5, "add", "(II)Z"⟩
abbrev w_Sf_add : List Cond := wsO y_Sf_add c_Sf_add 3 (some (.boolean))
abbrev c_Bc_run : ByteArray := prog_1_method_9_code
def y_Bc_run : MethodName := ⟨RX8, "run", "(J)I"⟩
abbrev w_Bc_run : List Cond := wsO y_Bc_run c_Bc_run 4 (some (.int))
abbrev c_Bc_cutDiameter : ByteArray := prog_1_method_26_code
def y_Bc_cutDiameter : MethodName := ⟨RX8, "cutDiameter", "(II)Z"⟩
abbrev w_Bc_cutDiameter : List Cond := wsO y_Bc_cutDiameter c_Bc_cutDiameter 6 (some (.boolean))
abbrev c_Bc_gatherPieces : ByteArray := prog_1_method_27_code
def y_Bc_gatherPieces : MethodName := ⟨RX8, "gatherPieces", "(II)Z"⟩
abbrev w_Bc_gatherPieces : List Cond := wsO y_Bc_gatherPieces c_Bc_gatherPieces 7 (some (.boolean))
abbrev c_Pl_addPiece : ByteArray := prog_5_method_3_code
def y_Pl_addPiece : MethodName := ⟨RX3, "addPiece", "(III)V"⟩
abbrev w_Pl_addPiece : List Cond := wsO y_Pl_addPiece c_Pl_addPiece 5 none
abbrev c_Ff_cut : ByteArray := prog_2_method_2_code
def y_Ff_cut : MethodName := ⟨RX0, "cut", "(LBarCutting$Plan;IILBarCutting$Shelf;)Z"⟩
abbrev w_Ff_cut : List Cond := wsO y_Ff_cut c_Ff_cut 10 (some (.boolean))
abbrev c_Ff_firstWithRoom : ByteArray := prog_2_method_3_code
def y_Ff_firstWithRoom : MethodName := ⟨RX0, "firstWithRoom", "(LBarCutting$Plan;II)I"⟩
abbrev w_Ff_firstWithRoom : List Cond := wsO y_Ff_firstWithRoom c_Ff_firstWithRoom 4 (some (.int))
abbrev c_Ff_leastKindFor : ByteArray := prog_2_method_4_code
def y_Ff_leastKindFor : MethodName := ⟨RX0, "leastKindFor", "(LBarCutting$Shelf;I)I"⟩
abbrev w_Ff_leastKindFor : List Cond := wsO y_Ff_leastKindFor c_Ff_leastKindFor 6 (some (.int))
abbrev c_Pl_openBar : ByteArray := prog_5_method_4_code
def y_Pl_openBar : MethodName := ⟨RX3, "openBar", "(II)I"⟩
abbrev w_Pl_openBar : List Cond := wsO y_Pl_openBar c_Pl_openBar 3 (some (.int))
abbrev c_Pl_putPiece : ByteArray := prog_5_method_5_code
def y_Pl_putPiece : MethodName := ⟨RX3, "putPiece", "(II)V"⟩
abbrev w_Pl_putPiece : List Cond := wsO y_Pl_putPiece c_Pl_putPiece 3 none
abbrev c_Lw_cut : ByteArray := prog_3_method_2_code
def y_Lw_cut : MethodName := ⟨RX1, "cut", "(LBarCutting$Plan;IILBarCutting$Shelf;)Z"⟩
abbrev w_Lw_cut : List Cond := wsO y_Lw_cut c_Lw_cut 6 (some (.boolean))
abbrev c_Lw_sumSets : ByteArray := prog_3_method_3_code
def y_Lw_sumSets : MethodName := ⟨RX1, "sumSets", "(LBarCutting$Plan;II)V"⟩
abbrev w_Lw_sumSets : List Cond := wsO y_Lw_sumSets c_Lw_sumSets 8 none
abbrev c_Lw_findFloors : ByteArray := prog_3_method_4_code
def y_Lw_findFloors : MethodName := ⟨RX1, "findFloors", "(I)V"⟩
abbrev w_Lw_findFloors : List Cond := wsO y_Lw_findFloors c_Lw_findFloors 6 none
abbrev c_Lw_highestBit : ByteArray := prog_3_method_11_code
def y_Lw_highestBit : MethodName := ⟨RX1, "highestBit", "(I)I"⟩
abbrev w_Lw_highestBit : List Cond := wsO y_Lw_highestBit c_Lw_highestBit 2 (some (.int))
abbrev c_Lw_costOfCheapestBar : ByteArray := prog_3_method_5_code
def y_Lw_costOfCheapestBar : MethodName := ⟨RX1, "costOfCheapestBar", "(I)I"⟩
abbrev w_Lw_costOfCheapestBar : List Cond := wsO y_Lw_costOfCheapestBar c_Lw_costOfCheapestBar 4 (some (.int))
abbrev c_Lw_costOfBar : ByteArray := prog_3_method_6_code
def y_Lw_costOfBar : MethodName := ⟨RX1, "costOfBar", "(I)I"⟩
abbrev w_Lw_costOfBar : List Cond := wsO y_Lw_costOfBar c_Lw_costOfBar 2 (some (.int))
abbrev c_Lw_search : ByteArray := prog_3_method_7_code
def y_Lw_search : MethodName := ⟨RX1, "search", "(III)V"⟩
abbrev w_Lw_search : List Cond := wsO y_Lw_search c_Lw_search 5 none
abbrev c_Lw_keep : ByteArray := prog_3_method_9_code
def y_Lw_keep : MethodName := ⟨RX1, "keep", "(II)V"⟩
abbrev w_Lw_keep : List Cond := wsO y_Lw_keep c_Lw_keep 4 none
abbrev c_Lw_searchRows : ByteArray := prog_3_method_8_code
def y_Lw_searchRows : MethodName := ⟨RX1, "searchRows", "(III)V"⟩
abbrev w_Lw_searchRows : List Cond := wsO y_Lw_searchRows c_Lw_searchRows 7 none
abbrev c_Lw_writeBest : ByteArray := prog_3_method_10_code
def y_Lw_writeBest : MethodName := ⟨RX1, "writeBest", "(LBarCutting$Plan;II)Z"⟩
abbrev w_Lw_writeBest : List Cond := wsO y_Lw_writeBest c_Lw_writeBest 7 (some (.boolean))
abbrev c_Bc_loss : ByteArray := prog_1_method_10_code
def y_Bc_loss : MethodName := ⟨RX8, "loss", "(I)J"⟩
abbrev w_Bc_loss : List Cond := wsO y_Bc_loss c_Bc_loss 2 (some (.long))
abbrev c_Pl_sumOfBars : ByteArray := prog_5_method_7_code
def y_Pl_sumOfBars : MethodName := ⟨RX3, "sumOfBars", "()I"⟩
abbrev w_Pl_sumOfBars : List Cond := wsO y_Pl_sumOfBars c_Pl_sumOfBars 3 (some (.int))
abbrev c_Pl_sumOfPieces : ByteArray := prog_5_method_8_code
def y_Pl_sumOfPieces : MethodName := ⟨RX3, "sumOfPieces", "()I"⟩
abbrev w_Pl_sumOfPieces : List Cond := wsO y_Pl_sumOfPieces c_Pl_sumOfPieces 3 (some (.int))
abbrev c_Bc_bound : ByteArray := prog_1_method_11_code
def y_Bc_bound : MethodName := ⟨RX8, "bound", "(I)J"⟩
abbrev w_Bc_bound : List Cond := wsO y_Bc_bound c_Bc_bound 2 (some (.long))
abbrev c_Bc_proved : ByteArray := prog_1_method_12_code
def y_Bc_proved : MethodName := ⟨RX8, "proved", "()Z"⟩
abbrev w_Bc_proved : List Cond := wsO y_Bc_proved c_Bc_proved 1 (some (.boolean))
abbrev c_Bc_pattern : ByteArray := prog_1_method_13_code
def y_Bc_pattern : MethodName := ⟨RX8, "pattern", "(II)I"⟩
abbrev w_Bc_pattern : List Cond := wsO y_Bc_pattern c_Bc_pattern 3 (some (.int))
abbrev c_Pl_lineOfPiece : ByteArray := prog_5_method_6_code
def y_Pl_lineOfPiece : MethodName := ⟨RX3, "lineOfPiece", "(II)I"⟩
abbrev w_Pl_lineOfPiece : List Cond := wsO y_Pl_lineOfPiece c_Pl_lineOfPiece 5 (some (.int))
abbrev c_Bc_place : ByteArray := prog_1_method_14_code
def y_Bc_place : MethodName := ⟨RX8, "place", "(IJJJ)Z"⟩
abbrev w_Bc_place : List Cond := wsO y_Bc_place c_Bc_place 9 (some (.boolean))
abbrev c_Bc_isPlace : ByteArray := prog_1_method_23_code
def y_Bc_isPlace : MethodName := ⟨RX8, "isPlace", "(J)Z"⟩
abbrev w_Bc_isPlace : List Cond := wsO y_Bc_isPlace c_Bc_isPlace 2 (some (.boolean))
abbrev c_Bc_command : ByteArray := prog_1_method_15_code
def y_Bc_command : MethodName := ⟨RX8, "command", "(II)I"⟩
abbrev w_Bc_command : List Cond := wsO y_Bc_command c_Bc_command 5 (some (.int))
abbrev c_Ln_allLegsTold : ByteArray := prog_4_method_3_code
def y_Ln_allLegsTold : MethodName := ⟨RX2, "allLegsTold", "()Z"⟩
abbrev w_Ln_allLegsTold : List Cond := wsO y_Ln_allLegsTold c_Ln_allLegsTold 2 (some (.boolean))
abbrev c_Tr_follow : ByteArray := prog_9_method_2_code
def y_Tr_follow : MethodName := ⟨RX7, "follow", "(LBarCutting$Line;)V"⟩
abbrev w_Tr_follow : List Cond := wsO y_Tr_follow c_Tr_follow 8 none
abbrev c_Sh_bendBefore : ByteArray := prog_6_method_2_code
def y_Sh_bendBefore : MethodName := ⟨RX4, "bendBefore", "(I)I"⟩
abbrev w_Sh_bendBefore : List Cond := wsO y_Sh_bendBefore c_Sh_bendBefore 3 (some (.int))
abbrev c_Tr_go : ByteArray := prog_9_method_3_code
def y_Tr_go : MethodName := ⟨RX7, "go", "(IIZ)V"⟩
abbrev w_Tr_go : List Cond := wsO y_Tr_go c_Tr_go 4 none
abbrev c_Bc_clash : ByteArray := prog_1_method_16_code
def y_Bc_clash : MethodName := ⟨RX8, "clash", "(II)I"⟩
abbrev w_Bc_clash : List Cond := wsO y_Bc_clash c_Bc_clash 11 (some (.int))
abbrev c_Tr_leastSquareTo : ByteArray := prog_9_method_4_code
def y_Tr_leastSquareTo : MethodName := ⟨RX7, "leastSquareTo", "(LBarCutting$Track;)J"⟩
abbrev w_Tr_leastSquareTo : List Cond := wsO y_Tr_leastSquareTo c_Tr_leastSquareTo 10 (some (.long))
abbrev c_Tr_gap : ByteArray := prog_9_method_5_code
def y_Tr_gap : MethodName := ⟨RX7, "gap", "(IIII)I"⟩
abbrev w_Tr_gap : List Cond := wsO y_Tr_gap c_Tr_gap 6 (some (.int))
abbrev c_Bc_lap : ByteArray := prog_1_method_17_code
def y_Bc_lap : MethodName := ⟨RX8, "lap", "(IJ)I"⟩
abbrev w_Bc_lap : List Cond := wsO y_Bc_lap c_Bc_lap 9 (some (.int))
abbrev c_Sf_greatest : ByteArray := prog_7_method_3_code
def y_Sf_greatest : MethodName := ⟨RX5, "greatest", "()I"⟩
abbrev w_Sf_greatest : List Cond := wsO y_Sf_greatest c_Sf_greatest 3 (some (.int))
abbrev c_Bc_weight : ByteArray := prog_1_method_18_code
def y_Bc_weight : MethodName := ⟨RX8, "weight", "(II)J"⟩
abbrev w_Bc_weight : List Cond := wsO y_Bc_weight c_Bc_weight 7 (some (.long))
abbrev c_Bc_greatestCommonWithDivisor : ByteArray := prog_1_method_28_code
def y_Bc_greatestCommonWithDivisor : MethodName := ⟨RX8, "greatestCommonWithDivisor", "(J)I"⟩
abbrev w_Bc_greatestCommonWithDivisor : List Cond := wsO y_Bc_greatestCommonWithDivisor c_Bc_greatestCommonWithDivisor 3 (some (.int))
abbrev c_Bc_tag : ByteArray := prog_1_method_19_code
def y_Bc_tag : MethodName := ⟨RX8, "tag", "(II)I"⟩
abbrev w_Bc_tag : List Cond := wsO y_Bc_tag c_Bc_tag 4 (some (.int))
abbrev c_Ln_signOfTag : ByteArray := prog_4_method_5_code
def y_Ln_signOfTag : MethodName := ⟨RX2, "signOfTag", "(I)I"⟩
abbrev w_Ln_signOfTag : List Cond := wsO y_Ln_signOfTag c_Ln_signOfTag 5 (some (.int))
abbrev c_Bc_differs : ByteArray := prog_1_method_20_code
def y_Bc_differs : MethodName := ⟨RX8, "differs", "(III)I"⟩
abbrev w_Bc_differs : List Cond := wsO y_Bc_differs c_Bc_differs 8 (some (.int))
abbrev c_Ln_thing : ByteArray := prog_4_method_4_code
def y_Ln_thing : MethodName := ⟨RX2, "thing", "(I)I"⟩
abbrev w_Ln_thing : List Cond := wsO y_Ln_thing c_Ln_thing 3 (some (.int))
abbrev c_Bc_order : ByteArray := prog_1_method_21_code
def y_Bc_order : MethodName := ⟨RX8, "order", "(I)I"⟩
abbrev w_Bc_order : List Cond := wsO y_Bc_order c_Bc_order 3 (some (.int))
abbrev c_Bc_linesBentBefore : ByteArray := prog_1_method_29_code
def y_Bc_linesBentBefore : MethodName := ⟨RX8, "linesBentBefore", "(I)I"⟩
abbrev w_Bc_linesBentBefore : List Cond := wsO y_Bc_linesBentBefore c_Bc_linesBentBefore 4 (some (.int))
abbrev c_Bc_isBentBefore : ByteArray := prog_1_method_30_code
def y_Bc_isBentBefore : MethodName := ⟨RX8, "isBentBefore", "(II)Z"⟩
abbrev w_Bc_isBentBefore : List Cond := wsO y_Bc_isBentBefore c_Bc_isBentBefore 5 (some (.boolean))
abbrev c_Md_init : ByteArray := prog_11_method_1_code
def y_Md_init : MethodName := ⟨RX9, "<init>", "()V"⟩
abbrev w_Md_init : List Cond := wsO y_Md_init c_Md_init 1 none
abbrev c_Md_unit : ByteArray := prog_11_method_5_code
def y_Md_unit : MethodName := ⟨RX9, "unit", "(I)Z"⟩
abbrev w_Md_unit : List Cond := wsO y_Md_unit c_Md_unit 2 (some (.boolean))
abbrev c_Md_isIn : ByteArray := prog_11_method_3_code
def y_Md_isIn : MethodName := ⟨RX9, "isIn", "(JJJ)Z"⟩
abbrev w_Md_isIn : List Cond := wsO y_Md_isIn c_Md_isIn 6 (some (.boolean))
abbrev c_Md_shape : ByteArray := prog_11_method_7_code
def y_Md_shape : MethodName := ⟨RX9, "shape", "()I"⟩
abbrev w_Md_shape : List Cond := wsO y_Md_shape c_Md_shape 5 (some (.int))
abbrev c_Md_bendOf : ByteArray := prog_11_method_6_code
def y_Md_bendOf : MethodName := ⟨RX9, "bendOf", "(I)I"⟩
abbrev w_Md_bendOf : List Cond := wsO y_Md_bendOf c_Md_bendOf 1 (some (.int))
abbrev c_Md_rule : ByteArray := prog_11_method_8_code
def y_Md_rule : MethodName := ⟨RX9, "rule", "(IJ)Z"⟩
abbrev w_Md_rule : List Cond := wsO y_Md_rule c_Md_rule 4 (some (.boolean))
abbrev c_Md_bar : ByteArray := prog_11_method_9_code
def y_Md_bar : MethodName := ⟨RX9, "bar", "(III)I"⟩
abbrev w_Md_bar : List Cond := wsO y_Md_bar c_Md_bar 4 (some (.int))
abbrev c_Md_leg : ByteArray := prog_11_method_10_code
def y_Md_leg : MethodName := ⟨RX9, "leg", "(IIJ)Z"⟩
abbrev w_Md_leg : List Cond := wsO y_Md_leg c_Md_leg 5 (some (.boolean))
abbrev c_Md_isLine : ByteArray := prog_11_method_4_code
def y_Md_isLine : MethodName := ⟨RX9, "isLine", "(I)Z"⟩
abbrev w_Md_isLine : List Cond := wsO y_Md_isLine c_Md_isLine 2 (some (.boolean))
abbrev c_Md_stock : ByteArray := prog_11_method_11_code
def y_Md_stock : MethodName := ⟨RX9, "stock", "(IJI)Z"⟩
abbrev w_Md_stock : List Cond := wsO y_Md_stock c_Md_stock 5 (some (.boolean))
abbrev c_Md_length : ByteArray := prog_11_method_14_code
def y_Md_length : MethodName := ⟨RX9, "length", "(II)J"⟩
abbrev w_Md_length : List Cond := wsO y_Md_length c_Md_length 3 (some (.long))
abbrev c_Md_lengthOf : ByteArray := prog_11_method_13_code
def y_Md_lengthOf : MethodName := ⟨RX9, "lengthOf", "(I)J"⟩
abbrev w_Md_lengthOf : List Cond := wsO y_Md_lengthOf c_Md_lengthOf 6 (some (.long))
abbrev c_Md_sumOf : ByteArray := prog_11_method_12_code
def y_Md_sumOf : MethodName := ⟨RX9, "sumOf", "(I)J"⟩
abbrev w_Md_sumOf : List Cond := wsO y_Md_sumOf c_Md_sumOf 5 (some (.long))
abbrev c_Md_run : ByteArray := prog_11_method_23_code
def y_Md_run : MethodName := ⟨RX9, "run", "(J)I"⟩
abbrev w_Md_run : List Cond := wsO y_Md_run c_Md_run 5 (some (.int))
abbrev c_Md_findPieces : ByteArray := prog_11_method_15_code
def y_Md_findPieces : MethodName := ⟨RX9, "findPieces", "(I)V"⟩
abbrev w_Md_findPieces : List Cond := wsO y_Md_findPieces c_Md_findPieces 5 none
abbrev c_Md_cutBest : ByteArray := prog_11_method_22_code
def y_Md_cutBest : MethodName := ⟨RX9, "cutBest", "(I)Z"⟩
abbrev w_Md_cutBest : List Cond := wsO y_Md_cutBest c_Md_cutBest 16 (some (.boolean))
abbrev c_Md_firstOf : ByteArray := prog_11_method_21_code
def y_Md_firstOf : MethodName := ⟨RX9, "firstOf", "(I)I"⟩
abbrev w_Md_firstOf : List Cond := wsO y_Md_firstOf c_Md_firstOf 3 (some (.int))
abbrev c_Md_lengthOfSet : ByteArray := prog_11_method_20_code
def y_Md_lengthOfSet : MethodName := ⟨RX9, "lengthOfSet", "(I)J"⟩
abbrev w_Md_lengthOfSet : List Cond := wsO y_Md_lengthOfSet c_Md_lengthOfSet 5 (some (.long))
abbrev c_Md_openBar : ByteArray := prog_11_method_16_code
def y_Md_openBar : MethodName := ⟨RX9, "openBar", "(II)V"⟩
abbrev w_Md_openBar : List Cond := wsO y_Md_openBar c_Md_openBar 3 none
abbrev c_Md_put : ByteArray := prog_11_method_17_code
def y_Md_put : MethodName := ⟨RX9, "put", "(II)V"⟩
abbrev w_Md_put : List Cond := wsO y_Md_put c_Md_put 3 none
abbrev c_Md_cutInTurn : ByteArray := prog_11_method_19_code
def y_Md_cutInTurn : MethodName := ⟨RX9, "cutInTurn", "(I)Z"⟩
abbrev w_Md_cutInTurn : List Cond := wsO y_Md_cutInTurn c_Md_cutInTurn 6 (some (.boolean))
abbrev c_Md_kindFor : ByteArray := prog_11_method_18_code
def y_Md_kindFor : MethodName := ⟨RX9, "kindFor", "(IJ)I"⟩
abbrev w_Md_kindFor : List Cond := wsO y_Md_kindFor c_Md_kindFor 8 (some (.int))
abbrev c_Md_loss : ByteArray := prog_11_method_25_code
def y_Md_loss : MethodName := ⟨RX9, "loss", "(I)J"⟩
abbrev w_Md_loss : List Cond := wsO y_Md_loss c_Md_loss 5 (some (.long))
abbrev c_Md_piecesTogether : ByteArray := prog_11_method_24_code
def y_Md_piecesTogether : MethodName := ⟨RX9, "piecesTogether", "()J"⟩
abbrev w_Md_piecesTogether : List Cond := wsO y_Md_piecesTogether c_Md_piecesTogether 4 (some (.long))
abbrev c_Md_bound : ByteArray := prog_11_method_26_code
def y_Md_bound : MethodName := ⟨RX9, "bound", "(I)J"⟩
abbrev w_Md_bound : List Cond := wsO y_Md_bound c_Md_bound 2 (some (.long))
abbrev c_Md_proved : ByteArray := prog_11_method_27_code
def y_Md_proved : MethodName := ⟨RX9, "proved", "()Z"⟩
abbrev w_Md_proved : List Cond := wsO y_Md_proved c_Md_proved 1 (some (.boolean))
abbrev c_Md_pattern : ByteArray := prog_11_method_28_code
def y_Md_pattern : MethodName := ⟨RX9, "pattern", "(II)I"⟩
abbrev w_Md_pattern : List Cond := wsO y_Md_pattern c_Md_pattern 3 (some (.int))
abbrev c_Md_place : ByteArray := prog_11_method_29_code
def y_Md_place : MethodName := ⟨RX9, "place", "(IJJJ)Z"⟩
abbrev w_Md_place : List Cond := wsO y_Md_place c_Md_place 8 (some (.boolean))
abbrev c_Md_command : ByteArray := prog_11_method_33_code
def y_Md_command : MethodName := ⟨RX9, "command", "(II)I"⟩
abbrev w_Md_command : List Cond := wsO y_Md_command c_Md_command 3 (some (.int))
abbrev c_Md_isTold : ByteArray := prog_11_method_30_code
def y_Md_isTold : MethodName := ⟨RX9, "isTold", "(I)Z"⟩
abbrev w_Md_isTold : List Cond := wsO y_Md_isTold c_Md_isTold 4 (some (.boolean))
abbrev c_Md_draw : ByteArray := prog_11_method_32_code
def y_Md_draw : MethodName := ⟨RX9, "draw", "(I)V"⟩
abbrev w_Md_draw : List Cond := wsO y_Md_draw c_Md_draw 5 none
abbrev c_Md_go : ByteArray := prog_11_method_31_code
def y_Md_go : MethodName := ⟨RX9, "go", "(IJZ)V"⟩
abbrev w_Md_go : List Cond := wsO y_Md_go c_Md_go 5 none
abbrev c_Md_clash : ByteArray := prog_11_method_36_code
def y_Md_clash : MethodName := ⟨RX9, "clash", "(II)I"⟩
abbrev w_Md_clash : List Cond := wsO y_Md_clash c_Md_clash 16 (some (.int))
abbrev c_Md_stretches : ByteArray := prog_11_method_34_code
def y_Md_stretches : MethodName := ⟨RX9, "stretches", "(II)I"⟩
abbrev w_Md_stretches : List Cond := wsO y_Md_stretches c_Md_stretches 13 (some (.int))
abbrev c_Md_gap : ByteArray := prog_11_method_35_code
def y_Md_gap : MethodName := ⟨RX9, "gap", "(JJJJ)J"⟩
abbrev w_Md_gap : List Cond := wsO y_Md_gap c_Md_gap 8 (some (.long))
abbrev c_Md_lap : ByteArray := prog_11_method_37_code
def y_Md_lap : MethodName := ⟨RX9, "lap", "(IJ)I"⟩
abbrev w_Md_lap : List Cond := wsO y_Md_lap c_Md_lap 10 (some (.int))
abbrev c_Md_weight : ByteArray := prog_11_method_38_code
def y_Md_weight : MethodName := ⟨RX9, "weight", "(II)J"⟩
abbrev w_Md_weight : List Cond := wsO y_Md_weight c_Md_weight 11 (some (.long))
abbrev c_Md_tag : ByteArray := prog_11_method_40_code
def y_Md_tag : MethodName := ⟨RX9, "tag", "(II)I"⟩
abbrev w_Md_tag : List Cond := wsO y_Md_tag c_Md_tag 5 (some (.int))
abbrev c_Md_sign : ByteArray := prog_11_method_39_code
def y_Md_sign : MethodName := ⟨RX9, "sign", "(I)V"⟩
abbrev w_Md_sign : List Cond := wsO y_Md_sign c_Md_sign 2 none
abbrev c_Md_differs : ByteArray := prog_11_method_42_code
def y_Md_differs : MethodName := ⟨RX9, "differs", "(III)I"⟩
abbrev w_Md_differs : List Cond := wsO y_Md_differs c_Md_differs 6 (some (.int))
abbrev c_Md_differ : ByteArray := prog_11_method_41_code
def y_Md_differ : MethodName := ⟨RX9, "differ", "(III)Z"⟩
abbrev w_Md_differ : List Cond := wsO y_Md_differ c_Md_differ 4 (some (.boolean))
abbrev c_Md_order : ByteArray := prog_11_method_44_code
def y_Md_order : MethodName := ⟨RX9, "order", "(I)I"⟩
abbrev w_Md_order : List Cond := wsO y_Md_order c_Md_order 5 (some (.int))
abbrev c_Md_isBentBefore : ByteArray := prog_11_method_43_code
def y_Md_isBentBefore : MethodName := ⟨RX9, "isBentBefore", "(II)Z"⟩
abbrev w_Md_isBentBefore : List Cond := wsO y_Md_isBentBefore c_Md_isBentBefore 3 (some (.boolean))
abbrev c_L_law : ByteArray := code
end
section
/-! words, by program -/
theorem in_X0 : ∀ w ∈ u_ws RX0 TX0 1, w ∈ gw := gw_sub _ [147] (by decide +kernel) (by decide +kernel)
theorem in_X1 : ∀ w ∈ u_ws RX1 TX1 11, w ∈ gw := gw_sub _ [117, 119, 121, 123, 125, 127, 129, 131, 133, 135, 137] (by decide +kernel) (by decide +kernel)
theorem in_X2 : ∀ w ∈ u_ws RX2 TX2 9, w ∈ gw := gw_sub _ [309, 311, 313, 315, 317, 319, 321, 323, 325] (by decide +kernel) (by decide +kernel)
theorem in_X3 : ∀ w ∈ u_ws RX3 TX3 12, w ∈ gw := gw_sub _ [74, 76, 78, 80, 82, 84, 86, 88, 90, 92, 94, 96] (by decide +kernel) (by decide +kernel)
theorem in_X4 : ∀ w ∈ u_ws RX4 TX4 3, w ∈ gw := gw_sub _ [262, 264, 266] (by decide +kernel) (by decide +kernel)
theorem in_X5 : ∀ w ∈ u_ws RX5 TX5 3, w ∈ gw := gw_sub _ [372, 374, 376] (by decide +kernel) (by decide +kernel)
theorem in_X6 : ∀ w ∈ u_ws RX6 TX6 2, w ∈ gw := gw_sub _ [30, 32] (by decide +kernel) (by decide +kernel)
theorem in_X7 : ∀ w ∈ u_ws RX7 TX7 8, w ∈ gw := gw_sub _ [167, 169, 171, 173, 175, 177, 179, 181] (by decide +kernel) (by decide +kernel)
theorem in_X8 : ∀ w ∈ u_ws RX8 TX8 12, w ∈ gw := gw_sub _ [197, 199, 201, 203, 205, 207, 209, 211, 213, 215, 217, 219] (by decide +kernel) (by decide +kernel)
theorem in_X9 : ∀ w ∈ u_ws RX9 TX9 46, w ∈ gw := gw_sub _ [640, 642, 644, 646, 648, 650, 652, 654, 656, 658, 660, 662, 664, 666, 668, 670, 672, 674, 676, 678, 680, 682, 684, 686, 688, 690, 692, 694, 696, 698, 700, 702, 704, 706, 708, 710, 712, 714, 716, 718, 720, 722, 724, 726, 728, 730] (by decide +kernel) (by decide +kernel)
theorem kZ_L : Cond.initialized RL ∈ gw := gw_at 0 (by decide +kernel) (by decide +kernel)
theorem kZ_8 : Cond.initialized RX8 ∈ gw := gw_at 1 (by decide +kernel) (by decide +kernel)
theorem kZ_6 : Cond.initialized RX6 ∈ gw := gw_at 2 (by decide +kernel) (by decide +kernel)
theorem kZ_3 : Cond.initialized RX3 ∈ gw := gw_at 3 (by decide +kernel) (by decide +kernel)
theorem kZ_1 : Cond.initialized RX1 ∈ gw := gw_at 4 (by decide +kernel) (by decide +kernel)
theorem kZ_0 : Cond.initialized RX0 ∈ gw := gw_at 5 (by decide +kernel) (by decide +kernel)
theorem kZ_7 : Cond.initialized RX7 ∈ gw := gw_at 6 (by decide +kernel) (by decide +kernel)
theorem kZ_9 : Cond.initialized RX9 ∈ gw := gw_at 7 (by decide +kernel) (by decide +kernel)
theorem kZ_4 : Cond.initialized RX4 ∈ gw := gw_at 8 (by decide +kernel) (by decide +kernel)
theorem kZ_2 : Cond.initialized RX2 ∈ gw := gw_at 9 (by decide +kernel) (by decide +kernel)
theorem kZ_Math : Cond.initialized "java/lang/Math" ∈ gw := gw_at 10 (by decide +kernel) (by decide +kernel)
theorem kZ_5 : Cond.initialized RX5 ∈ gw := gw_at 11 (by decide +kernel) (by decide +kernel)
theorem kZ_System : Cond.initialized "java/lang/System" ∈ gw := gw_at 12 (by decide +kernel) (by decide +kernel)
theorem kL_L_7 : Cond.classLink RL 7 RX8 ∈ gw := gw_at 13 (by decide +kernel) (by decide +kernel)
theorem kN_8 : Cond.instantiable RX8 12 ∈ gw := gw_at 14 (by decide +kernel) (by decide +kernel)
theorem kM_L_9 : Cond.methodLink RL 9 y_Bc_init ∈ gw := gw_at 15 (by decide +kernel) (by decide +kernel)
theorem kI_Bc_init : Cond.instanceMethod y_Bc_init ∈ gw := gw_at 16 (by decide +kernel) (by decide +kernel)
theorem kC_Bc_init : Cond.code y_Bc_init c_Bc_init 1 none ∈ gw := gw_at 17 (by decide +kernel) (by decide +kernel)
theorem kM_8_3 : Cond.methodLink RX8 3 Lib.objectInit ∈ gw := gw_at 18 (by decide +kernel) (by decide +kernel)
theorem kI_obj : Cond.instanceMethod Lib.objectInit ∈ gw := gw_at 19 (by decide +kernel) (by decide +kernel)
theorem kC_obj : Cond.code Lib.objectInit ⟨#[0xb1]⟩ 1 none ∈ gw := gw_at 20 (by decide +kernel) (by decide +kernel)
theorem kL_8_9 : Cond.classLink RX8 9 RX6 ∈ gw := gw_at 21 (by decide +kernel) (by decide +kernel)
theorem kN_6 : Cond.instantiable RX6 2 ∈ gw := gw_at 22 (by decide +kernel) (by decide +kernel)
theorem kI_Sg_init : Cond.instanceMethod y_Sg_init ∈ gw := gw_at 24 (by decide +kernel) (by decide +kernel)
theorem kC_Sg_init : Cond.code y_Sg_init c_Sg_init 1 none ∈ gw := gw_at 25 (by decide +kernel) (by decide +kernel)
theorem kM_6_3 : Cond.methodLink RX6 3 Lib.objectInit ∈ gw := gw_at 26 (by decide +kernel) (by decide +kernel)
theorem kF_6_9 : Cond.fieldLink RX6 9 "BarCutting$Signs" "row" "[C" ∈ gw := gw_at 27 (by decide +kernel) (by decide +kernel)
theorem kF_6_15 : Cond.fieldLink RX6 15 "BarCutting$Signs" "count" "I" ∈ gw := gw_at 28 (by decide +kernel) (by decide +kernel)
theorem kF_8_84 : Cond.fieldLink RX8 84 "BarCutting$Signs" "count" "I" ∈ gw := gw_at 29 (by decide +kernel) (by decide +kernel)
theorem kA_char : Cond.arrayClass .char ∈ gw := gw_at 35 (by decide +kernel) (by decide +kernel)
theorem kL_8_16 : Cond.classLink RX8 16 RX4 ∈ gw := gw_at 36 (by decide +kernel) (by decide +kernel)
theorem kL_8_22 : Cond.classLink RX8 22 RX2 ∈ gw := gw_at 38 (by decide +kernel) (by decide +kernel)
theorem kL_8_32 : Cond.classLink RX8 32 RX5 ∈ gw := gw_at 40 (by decide +kernel) (by decide +kernel)
theorem kL_8_38 : Cond.classLink RX8 38 RX3 ∈ gw := gw_at 42 (by decide +kernel) (by decide +kernel)
theorem kN_3 : Cond.instantiable RX3 12 ∈ gw := gw_at 43 (by decide +kernel) (by decide +kernel)
theorem kI_Pl_init : Cond.instanceMethod y_Pl_init ∈ gw := gw_at 45 (by decide +kernel) (by decide +kernel)
theorem kC_Pl_init : Cond.code y_Pl_init c_Pl_init 1 none ∈ gw := gw_at 46 (by decide +kernel) (by decide +kernel)
theorem kM_3_3 : Cond.methodLink RX3 3 Lib.objectInit ∈ gw := gw_at 47 (by decide +kernel) (by decide +kernel)
theorem kF_3_9 : Cond.fieldLink RX3 9 "BarCutting$Plan" "pieceLine" "[I" ∈ gw := gw_at 48 (by decide +kernel) (by decide +kernel)
theorem kF_3_15 : Cond.fieldLink RX3 15 "BarCutting$Plan" "pieceSize" "[I" ∈ gw := gw_at 49 (by decide +kernel) (by decide +kernel)
theorem kF_0_34 : Cond.fieldLink RX0 34 "BarCutting$Plan" "pieceSize" "[I" ∈ gw := gw_at 50 (by decide +kernel) (by decide +kernel)
theorem kF_1_81 : Cond.fieldLink RX1 81 "BarCutting$Plan" "pieceSize" "[I" ∈ gw := gw_at 51 (by decide +kernel) (by decide +kernel)
theorem kF_3_18 : Cond.fieldLink RX3 18 "BarCutting$Plan" "pieceBar" "[I" ∈ gw := gw_at 52 (by decide +kernel) (by decide +kernel)
theorem kF_3_21 : Cond.fieldLink RX3 21 "BarCutting$Plan" "barDiameter" "[I" ∈ gw := gw_at 53 (by decide +kernel) (by decide +kernel)
theorem kF_8_164 : Cond.fieldLink RX8 164 "BarCutting$Plan" "barDiameter" "[I" ∈ gw := gw_at 54 (by decide +kernel) (by decide +kernel)
theorem kF_3_24 : Cond.fieldLink RX3 24 "BarCutting$Plan" "barSize" "[I" ∈ gw := gw_at 55 (by decide +kernel) (by decide +kernel)
theorem kF_8_167 : Cond.fieldLink RX8 167 "BarCutting$Plan" "barSize" "[I" ∈ gw := gw_at 56 (by decide +kernel) (by decide +kernel)
theorem kF_3_27 : Cond.fieldLink RX3 27 "BarCutting$Plan" "barRoom" "[I" ∈ gw := gw_at 57 (by decide +kernel) (by decide +kernel)
theorem kF_0_56 : Cond.fieldLink RX0 56 "BarCutting$Plan" "barRoom" "[I" ∈ gw := gw_at 58 (by decide +kernel) (by decide +kernel)
theorem kF_3_30 : Cond.fieldLink RX3 30 "BarCutting$Plan" "barPieces" "[I" ∈ gw := gw_at 59 (by decide +kernel) (by decide +kernel)
theorem kF_8_170 : Cond.fieldLink RX8 170 "BarCutting$Plan" "barPieces" "[I" ∈ gw := gw_at 60 (by decide +kernel) (by decide +kernel)
theorem kF_1_36 : Cond.fieldLink RX1 36 "BarCutting$Plan" "pieces" "I" ∈ gw := gw_at 61 (by decide +kernel) (by decide +kernel)
theorem kF_3_33 : Cond.fieldLink RX3 33 "BarCutting$Plan" "pieces" "I" ∈ gw := gw_at 62 (by decide +kernel) (by decide +kernel)
theorem kF_0_31 : Cond.fieldLink RX0 31 "BarCutting$Plan" "pieces" "I" ∈ gw := gw_at 63 (by decide +kernel) (by decide +kernel)
theorem kF_8_247 : Cond.fieldLink RX8 247 "BarCutting$Plan" "pieces" "I" ∈ gw := gw_at 64 (by decide +kernel) (by decide +kernel)
theorem kF_0_15 : Cond.fieldLink RX0 15 "BarCutting$Plan" "bars" "I" ∈ gw := gw_at 65 (by decide +kernel) (by decide +kernel)
theorem kF_3_37 : Cond.fieldLink RX3 37 "BarCutting$Plan" "bars" "I" ∈ gw := gw_at 66 (by decide +kernel) (by decide +kernel)
theorem kF_8_151 : Cond.fieldLink RX8 151 "BarCutting$Plan" "bars" "I" ∈ gw := gw_at 67 (by decide +kernel) (by decide +kernel)
theorem kF_3_40 : Cond.fieldLink RX3 40 "BarCutting$Plan" "diameters" "I" ∈ gw := gw_at 68 (by decide +kernel) (by decide +kernel)
theorem kF_8_161 : Cond.fieldLink RX8 161 "BarCutting$Plan" "diameters" "I" ∈ gw := gw_at 69 (by decide +kernel) (by decide +kernel)
theorem kF_3_43 : Cond.fieldLink RX3 43 "BarCutting$Plan" "leastWasteDiameters" "I" ∈ gw := gw_at 70 (by decide +kernel) (by decide +kernel)
theorem kF_8_158 : Cond.fieldLink RX8 158 "BarCutting$Plan" "leastWasteDiameters" "I" ∈ gw := gw_at 71 (by decide +kernel) (by decide +kernel)
theorem kF_3_46 : Cond.fieldLink RX3 46 "BarCutting$Plan" "done" "Z" ∈ gw := gw_at 72 (by decide +kernel) (by decide +kernel)
theorem kF_8_147 : Cond.fieldLink RX8 147 "BarCutting$Plan" "done" "Z" ∈ gw := gw_at 73 (by decide +kernel) (by decide +kernel)
theorem kA_int : Cond.arrayClass .int ∈ gw := gw_at 99 (by decide +kernel) (by decide +kernel)
theorem kL_8_45 : Cond.classLink RX8 45 RX1 ∈ gw := gw_at 100 (by decide +kernel) (by decide +kernel)
theorem kN_1 : Cond.instantiable RX1 11 ∈ gw := gw_at 101 (by decide +kernel) (by decide +kernel)
theorem kI_Lw_init : Cond.instanceMethod y_Lw_init ∈ gw := gw_at 103 (by decide +kernel) (by decide +kernel)
theorem kC_Lw_init : Cond.code y_Lw_init c_Lw_init 1 none ∈ gw := gw_at 104 (by decide +kernel) (by decide +kernel)
theorem kM_1_3 : Cond.methodLink RX1 3 Lib.objectInit ∈ gw := gw_at 105 (by decide +kernel) (by decide +kernel)
theorem kF_1_11 : Cond.fieldLink RX1 11 "BarCutting$LeastWaste" "sums" "[I" ∈ gw := gw_at 106 (by decide +kernel) (by decide +kernel)
theorem kF_1_15 : Cond.fieldLink RX1 15 "BarCutting$LeastWaste" "floors" "[I" ∈ gw := gw_at 107 (by decide +kernel) (by decide +kernel)
theorem kF_1_18 : Cond.fieldLink RX1 18 "BarCutting$LeastWaste" "sizes" "[I" ∈ gw := gw_at 108 (by decide +kernel) (by decide +kernel)
theorem kF_1_21 : Cond.fieldLink RX1 21 "BarCutting$LeastWaste" "left" "[I" ∈ gw := gw_at 109 (by decide +kernel) (by decide +kernel)
theorem kF_1_24 : Cond.fieldLink RX1 24 "BarCutting$LeastWaste" "kindOfBar" "[I" ∈ gw := gw_at 110 (by decide +kernel) (by decide +kernel)
theorem kF_1_27 : Cond.fieldLink RX1 27 "BarCutting$LeastWaste" "rowOfBar" "[I" ∈ gw := gw_at 111 (by decide +kernel) (by decide +kernel)
theorem kF_1_30 : Cond.fieldLink RX1 30 "BarCutting$LeastWaste" "bestKindOfBar" "[I" ∈ gw := gw_at 112 (by decide +kernel) (by decide +kernel)
theorem kF_1_33 : Cond.fieldLink RX1 33 "BarCutting$LeastWaste" "bestRowOfBar" "[I" ∈ gw := gw_at 113 (by decide +kernel) (by decide +kernel)
theorem kF_1_47 : Cond.fieldLink RX1 47 "BarCutting$LeastWaste" "kinds" "I" ∈ gw := gw_at 114 (by decide +kernel) (by decide +kernel)
theorem kF_1_67 : Cond.fieldLink RX1 67 "BarCutting$LeastWaste" "best" "I" ∈ gw := gw_at 115 (by decide +kernel) (by decide +kernel)
theorem kF_1_70 : Cond.fieldLink RX1 70 "BarCutting$LeastWaste" "bestBars" "I" ∈ gw := gw_at 116 (by decide +kernel) (by decide +kernel)
theorem kL_8_52 : Cond.classLink RX8 52 RX0 ∈ gw := gw_at 140 (by decide +kernel) (by decide +kernel)
theorem kN_0 : Cond.instantiable RX0 1 ∈ gw := gw_at 141 (by decide +kernel) (by decide +kernel)
theorem kI_Ff_init : Cond.instanceMethod y_Ff_init ∈ gw := gw_at 143 (by decide +kernel) (by decide +kernel)
theorem kC_Ff_init : Cond.code y_Ff_init c_Ff_init 1 none ∈ gw := gw_at 144 (by decide +kernel) (by decide +kernel)
theorem kM_0_3 : Cond.methodLink RX0 3 Lib.objectInit ∈ gw := gw_at 145 (by decide +kernel) (by decide +kernel)
theorem kF_0_9 : Cond.fieldLink RX0 9 "BarCutting$FirstFit" "left" "[I" ∈ gw := gw_at 146 (by decide +kernel) (by decide +kernel)
theorem kL_8_59 : Cond.classLink RX8 59 RX7 ∈ gw := gw_at 150 (by decide +kernel) (by decide +kernel)
theorem kN_7 : Cond.instantiable RX7 8 ∈ gw := gw_at 151 (by decide +kernel) (by decide +kernel)
theorem kI_Tr_init : Cond.instanceMethod y_Tr_init ∈ gw := gw_at 153 (by decide +kernel) (by decide +kernel)
theorem kC_Tr_init : Cond.code y_Tr_init c_Tr_init 1 none ∈ gw := gw_at 154 (by decide +kernel) (by decide +kernel)
theorem kM_7_3 : Cond.methodLink RX7 3 Lib.objectInit ∈ gw := gw_at 155 (by decide +kernel) (by decide +kernel)
theorem kF_7_11 : Cond.fieldLink RX7 11 "BarCutting$Track" "fromX" "[I" ∈ gw := gw_at 156 (by decide +kernel) (by decide +kernel)
theorem kF_7_15 : Cond.fieldLink RX7 15 "BarCutting$Track" "fromY" "[I" ∈ gw := gw_at 157 (by decide +kernel) (by decide +kernel)
theorem kF_7_18 : Cond.fieldLink RX7 18 "BarCutting$Track" "stepX" "[I" ∈ gw := gw_at 158 (by decide +kernel) (by decide +kernel)
theorem kF_8_204 : Cond.fieldLink RX8 204 "BarCutting$Track" "stepX" "[I" ∈ gw := gw_at 159 (by decide +kernel) (by decide +kernel)
theorem kF_7_21 : Cond.fieldLink RX7 21 "BarCutting$Track" "stepY" "[I" ∈ gw := gw_at 160 (by decide +kernel) (by decide +kernel)
theorem kF_8_207 : Cond.fieldLink RX8 207 "BarCutting$Track" "stepY" "[I" ∈ gw := gw_at 161 (by decide +kernel) (by decide +kernel)
theorem kF_7_24 : Cond.fieldLink RX7 24 "BarCutting$Track" "isLeg" "[Z" ∈ gw := gw_at 162 (by decide +kernel) (by decide +kernel)
theorem kF_7_28 : Cond.fieldLink RX7 28 "BarCutting$Track" "steps" "I" ∈ gw := gw_at 163 (by decide +kernel) (by decide +kernel)
theorem kF_8_201 : Cond.fieldLink RX8 201 "BarCutting$Track" "steps" "I" ∈ gw := gw_at 164 (by decide +kernel) (by decide +kernel)
theorem kF_7_37 : Cond.fieldLink RX7 37 "BarCutting$Track" "x" "I" ∈ gw := gw_at 165 (by decide +kernel) (by decide +kernel)
theorem kF_7_41 : Cond.fieldLink RX7 41 "BarCutting$Track" "y" "I" ∈ gw := gw_at 166 (by decide +kernel) (by decide +kernel)
theorem kA_boolean : Cond.arrayClass .boolean ∈ gw := gw_at 184 (by decide +kernel) (by decide +kernel)
theorem kF_8_12 : Cond.fieldLink RX8 12 "BarCutting" "signs" "LBarCutting$Signs;" ∈ gw := gw_at 185 (by decide +kernel) (by decide +kernel)
theorem kF_8_18 : Cond.fieldLink RX8 18 "BarCutting" "shapes" "[LBarCutting$Shape;" ∈ gw := gw_at 186 (by decide +kernel) (by decide +kernel)
theorem kF_8_24 : Cond.fieldLink RX8 24 "BarCutting" "lines" "[LBarCutting$Line;" ∈ gw := gw_at 187 (by decide +kernel) (by decide +kernel)
theorem kF_8_28 : Cond.fieldLink RX8 28 "BarCutting" "rules" "[I" ∈ gw := gw_at 188 (by decide +kernel) (by decide +kernel)
theorem kF_8_34 : Cond.fieldLink RX8 34 "BarCutting" "shelves" "[LBarCutting$Shelf;" ∈ gw := gw_at 189 (by decide +kernel) (by decide +kernel)
theorem kF_8_41 : Cond.fieldLink RX8 41 "BarCutting" "plan" "LBarCutting$Plan;" ∈ gw := gw_at 190 (by decide +kernel) (by decide +kernel)
theorem kF_8_48 : Cond.fieldLink RX8 48 "BarCutting" "leastWaste" "LBarCutting$LeastWaste;" ∈ gw := gw_at 191 (by decide +kernel) (by decide +kernel)
theorem kF_8_55 : Cond.fieldLink RX8 55 "BarCutting" "firstFit" "LBarCutting$FirstFit;" ∈ gw := gw_at 192 (by decide +kernel) (by decide +kernel)
theorem kF_8_62 : Cond.fieldLink RX8 62 "BarCutting" "track" "LBarCutting$Track;" ∈ gw := gw_at 193 (by decide +kernel) (by decide +kernel)
theorem kF_8_66 : Cond.fieldLink RX8 66 "BarCutting" "otherTrack" "LBarCutting$Track;" ∈ gw := gw_at 194 (by decide +kernel) (by decide +kernel)
theorem kF_8_69 : Cond.fieldLink RX8 69 "BarCutting" "shapeCount" "I" ∈ gw := gw_at 195 (by decide +kernel) (by decide +kernel)
theorem kF_8_73 : Cond.fieldLink RX8 73 "BarCutting" "lineCount" "I" ∈ gw := gw_at 196 (by decide +kernel) (by decide +kernel)
theorem kM_L_13 : Cond.methodLink RL 13 y_Bc_unit ∈ gw := gw_at 222 (by decide +kernel) (by decide +kernel)
theorem kI_Bc_unit : Cond.instanceMethod y_Bc_unit ∈ gw := gw_at 223 (by decide +kernel) (by decide +kernel)
theorem kV_Bc_unit : Cond.selects RX8 y_Bc_unit y_Bc_unit ∈ gw := gw_at 224 (by decide +kernel) (by decide +kernel)
theorem kC_Bc_unit : Cond.code y_Bc_unit c_Bc_unit 2 (some (.boolean)) ∈ gw := gw_at 225 (by decide +kernel) (by decide +kernel)
theorem kM_8_76 : Cond.methodLink RX8 76 y_Sg_collect ∈ gw := gw_at 226 (by decide +kernel) (by decide +kernel)
theorem kI_Sg_collect : Cond.instanceMethod y_Sg_collect ∈ gw := gw_at 227 (by decide +kernel) (by decide +kernel)
theorem kV_Sg_collect : Cond.selects RX6 y_Sg_collect y_Sg_collect ∈ gw := gw_at 228 (by decide +kernel) (by decide +kernel)
theorem kC_Sg_collect : Cond.code y_Sg_collect c_Sg_collect 2 (some (.boolean)) ∈ gw := gw_at 229 (by decide +kernel) (by decide +kernel)
theorem kM_L_18 : Cond.methodLink RL 18 y_Bc_shape ∈ gw := gw_at 230 (by decide +kernel) (by decide +kernel)
theorem kI_Bc_shape : Cond.instanceMethod y_Bc_shape ∈ gw := gw_at 231 (by decide +kernel) (by decide +kernel)
theorem kV_Bc_shape : Cond.selects RX8 y_Bc_shape y_Bc_shape ∈ gw := gw_at 232 (by decide +kernel) (by decide +kernel)
theorem kC_Bc_shape : Cond.code y_Bc_shape c_Bc_shape 4 (some (.int)) ∈ gw := gw_at 233 (by decide +kernel) (by decide +kernel)
theorem kM_8_80 : Cond.methodLink RX8 80 y_Sg_firstWrong ∈ gw := gw_at 234 (by decide +kernel) (by decide +kernel)
theorem kI_Sg_firstWrong : Cond.instanceMethod y_Sg_firstWrong ∈ gw := gw_at 235 (by decide +kernel) (by decide +kernel)
theorem kV_Sg_firstWrong : Cond.selects RX6 y_Sg_firstWrong y_Sg_firstWrong ∈ gw := gw_at 236 (by decide +kernel) (by decide +kernel)
theorem kC_Sg_firstWrong : Cond.code y_Sg_firstWrong c_Sg_firstWrong 3 (some (.int)) ∈ gw := gw_at 237 (by decide +kernel) (by decide +kernel)
theorem kM_6_19 : Cond.methodLink RX6 19 y_Sg_isLeg ∈ gw := gw_at 238 (by decide +kernel) (by decide +kernel)
theorem kS_Sg_isLeg : Cond.static y_Sg_isLeg ∈ gw := gw_at 239 (by decide +kernel) (by decide +kernel)
theorem kC_Sg_isLeg : Cond.code y_Sg_isLeg c_Sg_isLeg 2 (some (.boolean)) ∈ gw := gw_at 240 (by decide +kernel) (by decide +kernel)
theorem kM_6_23 : Cond.methodLink RX6 23 y_Sg_quartersOf ∈ gw := gw_at 241 (by decide +kernel) (by decide +kernel)
theorem kS_Sg_quartersOf : Cond.static y_Sg_quartersOf ∈ gw := gw_at 242 (by decide +kernel) (by decide +kernel)
theorem kC_Sg_quartersOf : Cond.code y_Sg_quartersOf c_Sg_quartersOf 1 (some (.int)) ∈ gw := gw_at 243 (by decide +kernel) (by decide +kernel)
theorem kM_8_87 : Cond.methodLink RX8 87 y_Sg_toShape ∈ gw := gw_at 244 (by decide +kernel) (by decide +kernel)
theorem kI_Sg_toShape : Cond.instanceMethod y_Sg_toShape ∈ gw := gw_at 245 (by decide +kernel) (by decide +kernel)
theorem kV_Sg_toShape : Cond.selects RX6 y_Sg_toShape y_Sg_toShape ∈ gw := gw_at 246 (by decide +kernel) (by decide +kernel)
theorem kC_Sg_toShape : Cond.code y_Sg_toShape c_Sg_toShape 4 (some (.object "BarCutting$Shape")) ∈ gw := gw_at 247 (by decide +kernel) (by decide +kernel)
theorem kL_6_27 : Cond.classLink RX6 27 RX4 ∈ gw := gw_at 248 (by decide +kernel) (by decide +kernel)
theorem kN_4 : Cond.instantiable RX4 3 ∈ gw := gw_at 249 (by decide +kernel) (by decide +kernel)
theorem kM_6_29 : Cond.methodLink RX6 29 y_Sh_init ∈ gw := gw_at 250 (by decide +kernel) (by decide +kernel)
theorem kI_Sh_init : Cond.instanceMethod y_Sh_init ∈ gw := gw_at 251 (by decide +kernel) (by decide +kernel)
theorem kC_Sh_init : Cond.code y_Sh_init c_Sh_init 3 none ∈ gw := gw_at 252 (by decide +kernel) (by decide +kernel)
theorem kM_4_1 : Cond.methodLink RX4 1 Lib.objectInit ∈ gw := gw_at 253 (by decide +kernel) (by decide +kernel)
theorem kF_4_7 : Cond.fieldLink RX4 7 "BarCutting$Shape" "text" "[C" ∈ gw := gw_at 254 (by decide +kernel) (by decide +kernel)
theorem kF_2_33 : Cond.fieldLink RX2 33 "BarCutting$Shape" "text" "[C" ∈ gw := gw_at 255 (by decide +kernel) (by decide +kernel)
theorem kF_4_13 : Cond.fieldLink RX4 13 "BarCutting$Shape" "legs" "I" ∈ gw := gw_at 256 (by decide +kernel) (by decide +kernel)
theorem kF_7_46 : Cond.fieldLink RX7 46 "BarCutting$Shape" "legs" "I" ∈ gw := gw_at 257 (by decide +kernel) (by decide +kernel)
theorem kF_2_29 : Cond.fieldLink RX2 29 "BarCutting$Shape" "legs" "I" ∈ gw := gw_at 258 (by decide +kernel) (by decide +kernel)
theorem kF_8_110 : Cond.fieldLink RX8 110 "BarCutting$Shape" "legs" "I" ∈ gw := gw_at 259 (by decide +kernel) (by decide +kernel)
theorem kF_4_17 : Cond.fieldLink RX4 17 "BarCutting$Shape" "quarters" "I" ∈ gw := gw_at 260 (by decide +kernel) (by decide +kernel)
theorem kF_8_239 : Cond.fieldLink RX8 239 "BarCutting$Shape" "quarters" "I" ∈ gw := gw_at 261 (by decide +kernel) (by decide +kernel)
theorem kM_L_25 : Cond.methodLink RL 25 y_Bc_rule ∈ gw := gw_at 269 (by decide +kernel) (by decide +kernel)
theorem kI_Bc_rule : Cond.instanceMethod y_Bc_rule ∈ gw := gw_at 270 (by decide +kernel) (by decide +kernel)
theorem kV_Bc_rule : Cond.selects RX8 y_Bc_rule y_Bc_rule ∈ gw := gw_at 271 (by decide +kernel) (by decide +kernel)
theorem kC_Bc_rule : Cond.code y_Bc_rule c_Bc_rule 4 (some (.boolean)) ∈ gw := gw_at 272 (by decide +kernel) (by decide +kernel)
theorem kM_8_91 : Cond.methodLink RX8 91 y_Bc_isDiameter ∈ gw := gw_at 273 (by decide +kernel) (by decide +kernel)
theorem kS_Bc_isDiameter : Cond.static y_Bc_isDiameter ∈ gw := gw_at 274 (by decide +kernel) (by decide +kernel)
theorem kC_Bc_isDiameter : Cond.code y_Bc_isDiameter c_Bc_isDiameter 1 (some (.boolean)) ∈ gw := gw_at 275 (by decide +kernel) (by decide +kernel)
theorem kK_8_94 : Cond.constantLong RX8 94 500 ∈ gw := gw_at 276 (by decide +kernel) (by decide +kernel)
theorem kM_8_96 : Cond.methodLink RX8 96 y_Pl_clear ∈ gw := gw_at 277 (by decide +kernel) (by decide +kernel)
theorem kI_Pl_clear : Cond.instanceMethod y_Pl_clear ∈ gw := gw_at 278 (by decide +kernel) (by decide +kernel)
theorem kV_Pl_clear : Cond.selects RX3 y_Pl_clear y_Pl_clear ∈ gw := gw_at 279 (by decide +kernel) (by decide +kernel)
theorem kC_Pl_clear : Cond.code y_Pl_clear c_Pl_clear 1 none ∈ gw := gw_at 280 (by decide +kernel) (by decide +kernel)
theorem kM_L_30 : Cond.methodLink RL 30 y_Bc_bar ∈ gw := gw_at 281 (by decide +kernel) (by decide +kernel)
theorem kI_Bc_bar : Cond.instanceMethod y_Bc_bar ∈ gw := gw_at 282 (by decide +kernel) (by decide +kernel)
theorem kV_Bc_bar : Cond.selects RX8 y_Bc_bar y_Bc_bar ∈ gw := gw_at 283 (by decide +kernel) (by decide +kernel)
theorem kC_Bc_bar : Cond.code y_Bc_bar c_Bc_bar 4 (some (.int)) ∈ gw := gw_at 284 (by decide +kernel) (by decide +kernel)
theorem kN_2 : Cond.instantiable RX2 9 ∈ gw := gw_at 285 (by decide +kernel) (by decide +kernel)
theorem kM_8_99 : Cond.methodLink RX8 99 y_Ln_init ∈ gw := gw_at 286 (by decide +kernel) (by decide +kernel)
theorem kI_Ln_init : Cond.instanceMethod y_Ln_init ∈ gw := gw_at 287 (by decide +kernel) (by decide +kernel)
theorem kC_Ln_init : Cond.code y_Ln_init c_Ln_init 5 none ∈ gw := gw_at 288 (by decide +kernel) (by decide +kernel)
theorem kM_2_3 : Cond.methodLink RX2 3 Lib.objectInit ∈ gw := gw_at 289 (by decide +kernel) (by decide +kernel)
theorem kF_2_15 : Cond.fieldLink RX2 15 "BarCutting$Line" "shapeNumber" "I" ∈ gw := gw_at 290 (by decide +kernel) (by decide +kernel)
theorem kF_8_132 : Cond.fieldLink RX8 132 "BarCutting$Line" "shapeNumber" "I" ∈ gw := gw_at 291 (by decide +kernel) (by decide +kernel)
theorem kF_2_19 : Cond.fieldLink RX2 19 "BarCutting$Line" "shape" "LBarCutting$Shape;" ∈ gw := gw_at 292 (by decide +kernel) (by decide +kernel)
theorem kF_7_42 : Cond.fieldLink RX7 42 "BarCutting$Line" "shape" "LBarCutting$Shape;" ∈ gw := gw_at 293 (by decide +kernel) (by decide +kernel)
theorem kF_8_106 : Cond.fieldLink RX8 106 "BarCutting$Line" "shape" "LBarCutting$Shape;" ∈ gw := gw_at 294 (by decide +kernel) (by decide +kernel)
theorem kF_2_23 : Cond.fieldLink RX2 23 "BarCutting$Line" "diameter" "I" ∈ gw := gw_at 295 (by decide +kernel) (by decide +kernel)
theorem kF_7_55 : Cond.fieldLink RX7 55 "BarCutting$Line" "diameter" "I" ∈ gw := gw_at 296 (by decide +kernel) (by decide +kernel)
theorem kF_8_129 : Cond.fieldLink RX8 129 "BarCutting$Line" "diameter" "I" ∈ gw := gw_at 297 (by decide +kernel) (by decide +kernel)
theorem kF_2_26 : Cond.fieldLink RX2 26 "BarCutting$Line" "bars" "I" ∈ gw := gw_at 298 (by decide +kernel) (by decide +kernel)
theorem kF_8_123 : Cond.fieldLink RX8 123 "BarCutting$Line" "bars" "I" ∈ gw := gw_at 299 (by decide +kernel) (by decide +kernel)
theorem kF_2_9 : Cond.fieldLink RX2 9 "BarCutting$Line" "legs" "[I" ∈ gw := gw_at 300 (by decide +kernel) (by decide +kernel)
theorem kF_7_62 : Cond.fieldLink RX7 62 "BarCutting$Line" "legs" "[I" ∈ gw := gw_at 301 (by decide +kernel) (by decide +kernel)
theorem kF_8_115 : Cond.fieldLink RX8 115 "BarCutting$Line" "legs" "[I" ∈ gw := gw_at 302 (by decide +kernel) (by decide +kernel)
theorem kF_8_190 : Cond.fieldLink RX8 190 "BarCutting$Line" "placed" "Z" ∈ gw := gw_at 303 (by decide +kernel) (by decide +kernel)
theorem kF_7_32 : Cond.fieldLink RX7 32 "BarCutting$Line" "x" "I" ∈ gw := gw_at 304 (by decide +kernel) (by decide +kernel)
theorem kF_8_181 : Cond.fieldLink RX8 181 "BarCutting$Line" "x" "I" ∈ gw := gw_at 305 (by decide +kernel) (by decide +kernel)
theorem kF_7_38 : Cond.fieldLink RX7 38 "BarCutting$Line" "y" "I" ∈ gw := gw_at 306 (by decide +kernel) (by decide +kernel)
theorem kF_8_184 : Cond.fieldLink RX8 184 "BarCutting$Line" "y" "I" ∈ gw := gw_at 307 (by decide +kernel) (by decide +kernel)
theorem kF_8_187 : Cond.fieldLink RX8 187 "BarCutting$Line" "z" "I" ∈ gw := gw_at 308 (by decide +kernel) (by decide +kernel)
theorem kM_L_35 : Cond.methodLink RL 35 y_Bc_leg ∈ gw := gw_at 328 (by decide +kernel) (by decide +kernel)
theorem kI_Bc_leg : Cond.instanceMethod y_Bc_leg ∈ gw := gw_at 329 (by decide +kernel) (by decide +kernel)
theorem kV_Bc_leg : Cond.selects RX8 y_Bc_leg y_Bc_leg ∈ gw := gw_at 330 (by decide +kernel) (by decide +kernel)
theorem kC_Bc_leg : Cond.code y_Bc_leg c_Bc_leg 6 (some (.boolean)) ∈ gw := gw_at 331 (by decide +kernel) (by decide +kernel)
theorem kM_8_102 : Cond.methodLink RX8 102 y_Bc_lineAt ∈ gw := gw_at 332 (by decide +kernel) (by decide +kernel)
theorem kI_Bc_lineAt : Cond.instanceMethod y_Bc_lineAt ∈ gw := gw_at 334 (by decide +kernel) (by decide +kernel)
theorem kC_Bc_lineAt : Cond.code y_Bc_lineAt c_Bc_lineAt 2 (some (.object "BarCutting$Line")) ∈ gw := gw_at 335 (by decide +kernel) (by decide +kernel)
theorem kK_8_113 : Cond.constantLong RX8 113 20000 ∈ gw := gw_at 336 (by decide +kernel) (by decide +kernel)
theorem kM_L_40 : Cond.methodLink RL 40 y_Bc_length ∈ gw := gw_at 337 (by decide +kernel) (by decide +kernel)
theorem kI_Bc_length : Cond.instanceMethod y_Bc_length ∈ gw := gw_at 338 (by decide +kernel) (by decide +kernel)
theorem kV_Bc_length : Cond.selects RX8 y_Bc_length y_Bc_length ∈ gw := gw_at 339 (by decide +kernel) (by decide +kernel)
theorem kC_Bc_length : Cond.code y_Bc_length c_Bc_length 4 (some (.long)) ∈ gw := gw_at 340 (by decide +kernel) (by decide +kernel)
theorem kK_8_117 : Cond.constantLong RX8 117 (-1) ∈ gw := gw_at 341 (by decide +kernel) (by decide +kernel)
theorem kM_8_119 : Cond.methodLink RX8 119 y_Bc_cutLength ∈ gw := gw_at 342 (by decide +kernel) (by decide +kernel)
theorem kI_Bc_cutLength : Cond.instanceMethod y_Bc_cutLength ∈ gw := gw_at 344 (by decide +kernel) (by decide +kernel)
theorem kC_Bc_cutLength : Cond.code y_Bc_cutLength c_Bc_cutLength 3 (some (.int)) ∈ gw := gw_at 345 (by decide +kernel) (by decide +kernel)
theorem kM_8_126 : Cond.methodLink RX8 126 y_Ln_sumOfLegs ∈ gw := gw_at 346 (by decide +kernel) (by decide +kernel)
theorem kI_Ln_sumOfLegs : Cond.instanceMethod y_Ln_sumOfLegs ∈ gw := gw_at 347 (by decide +kernel) (by decide +kernel)
theorem kV_Ln_sumOfLegs : Cond.selects RX2 y_Ln_sumOfLegs y_Ln_sumOfLegs ∈ gw := gw_at 348 (by decide +kernel) (by decide +kernel)
theorem kC_Ln_sumOfLegs : Cond.code y_Ln_sumOfLegs c_Ln_sumOfLegs 3 (some (.int)) ∈ gw := gw_at 349 (by decide +kernel) (by decide +kernel)
theorem kM_8_242 : Cond.methodLink RX8 242 ⟨"java/lang/Math", "max", "(II)I"⟩ ∈ gw := gw_at 350 (by decide +kernel) (by decide +kernel)
theorem kS_max : Cond.static Lib.Math.max.name ∈ gw := gw_at 351 (by decide +kernel) (by decide +kernel)
theorem kC_max : Cond.code Lib.Math.max.name Lib.Math.max.code 2 (some .int) ∈ gw := gw_at 352 (by decide +kernel) (by decide +kernel)
theorem kM_L_45 : Cond.methodLink RL 45 y_Bc_stock ∈ gw := gw_at 353 (by decide +kernel) (by decide +kernel)
theorem kI_Bc_stock : Cond.instanceMethod y_Bc_stock ∈ gw := gw_at 354 (by decide +kernel) (by decide +kernel)
theorem kV_Bc_stock : Cond.selects RX8 y_Bc_stock y_Bc_stock ∈ gw := gw_at 355 (by decide +kernel) (by decide +kernel)
theorem kC_Bc_stock : Cond.code y_Bc_stock c_Bc_stock 6 (some (.boolean)) ∈ gw := gw_at 356 (by decide +kernel) (by decide +kernel)
theorem kK_8_135 : Cond.constantLong RX8 135 30000 ∈ gw := gw_at 357 (by decide +kernel) (by decide +kernel)
theorem kN_5 : Cond.instantiable RX5 3 ∈ gw := gw_at 358 (by decide +kernel) (by decide +kernel)
theorem kI_Sf_init : Cond.instanceMethod y_Sf_init ∈ gw := gw_at 360 (by decide +kernel) (by decide +kernel)
theorem kC_Sf_init : Cond.code y_Sf_init c_Sf_init 1 none ∈ gw := gw_at 361 (by decide +kernel) (by decide +kernel)
theorem kM_5_3 : Cond.methodLink RX5 3 Lib.objectInit ∈ gw := gw_at 362 (by decide +kernel) (by decide +kernel)
theorem kF_5_9 : Cond.fieldLink RX5 9 "BarCutting$Shelf" "sizes" "[I" ∈ gw := gw_at 363 (by decide +kernel) (by decide +kernel)
theorem kF_1_48 : Cond.fieldLink RX1 48 "BarCutting$Shelf" "sizes" "[I" ∈ gw := gw_at 364 (by decide +kernel) (by decide +kernel)
theorem kF_0_45 : Cond.fieldLink RX0 45 "BarCutting$Shelf" "sizes" "[I" ∈ gw := gw_at 365 (by decide +kernel) (by decide +kernel)
theorem kF_5_15 : Cond.fieldLink RX5 15 "BarCutting$Shelf" "bars" "[I" ∈ gw := gw_at 366 (by decide +kernel) (by decide +kernel)
theorem kF_0_21 : Cond.fieldLink RX0 21 "BarCutting$Shelf" "bars" "[I" ∈ gw := gw_at 367 (by decide +kernel) (by decide +kernel)
theorem kF_1_55 : Cond.fieldLink RX1 55 "BarCutting$Shelf" "bars" "[I" ∈ gw := gw_at 368 (by decide +kernel) (by decide +kernel)
theorem kF_5_18 : Cond.fieldLink RX5 18 "BarCutting$Shelf" "kinds" "I" ∈ gw := gw_at 369 (by decide +kernel) (by decide +kernel)
theorem kF_1_42 : Cond.fieldLink RX1 42 "BarCutting$Shelf" "kinds" "I" ∈ gw := gw_at 370 (by decide +kernel) (by decide +kernel)
theorem kF_0_59 : Cond.fieldLink RX0 59 "BarCutting$Shelf" "kinds" "I" ∈ gw := gw_at 371 (by decide +kernel) (by decide +kernel)
theorem kM_8_138 : Cond.methodLink RX8 138 y_Sf_add ∈ gw := gw_at 379 (by decide +kernel) (by decide +kernel)
theorem kI_Sf_add : Cond.instanceMethod y_Sf_add ∈ gw := gw_at 380 (by decide +kernel) (by decide +kernel)
theorem kV_Sf_add : Cond.selects RX5 y_Sf_add y_Sf_add ∈ gw := gw_at 381 (by decide +kernel) (by decide +kernel)
theorem kC_Sf_add : Cond.code y_Sf_add c_Sf_add 3 (some (.boolean)) ∈ gw := gw_at 382 (by decide +kernel) (by decide +kernel)
theorem kM_L_50 : Cond.methodLink RL 50 y_Bc_run ∈ gw := gw_at 383 (by decide +kernel) (by decide +kernel)
theorem kI_Bc_run : Cond.instanceMethod y_Bc_run ∈ gw := gw_at 384 (by decide +kernel) (by decide +kernel)
theorem kV_Bc_run : Cond.selects RX8 y_Bc_run y_Bc_run ∈ gw := gw_at 385 (by decide +kernel) (by decide +kernel)
theorem kC_Bc_run : Cond.code y_Bc_run c_Bc_run 4 (some (.int)) ∈ gw := gw_at 386 (by decide +kernel) (by decide +kernel)
theorem kK_8_142 : Cond.constantLong RX8 142 8 ∈ gw := gw_at 387 (by decide +kernel) (by decide +kernel)
theorem kM_8_144 : Cond.methodLink RX8 144 y_Bc_cutDiameter ∈ gw := gw_at 388 (by decide +kernel) (by decide +kernel)
theorem kI_Bc_cutDiameter : Cond.instanceMethod y_Bc_cutDiameter ∈ gw := gw_at 390 (by decide +kernel) (by decide +kernel)
theorem kC_Bc_cutDiameter : Cond.code y_Bc_cutDiameter c_Bc_cutDiameter 6 (some (.boolean)) ∈ gw := gw_at 391 (by decide +kernel) (by decide +kernel)
theorem kM_8_250 : Cond.methodLink RX8 250 y_Bc_gatherPieces ∈ gw := gw_at 392 (by decide +kernel) (by decide +kernel)
theorem kI_Bc_gatherPieces : Cond.instanceMethod y_Bc_gatherPieces ∈ gw := gw_at 394 (by decide +kernel) (by decide +kernel)
theorem kC_Bc_gatherPieces : Cond.code y_Bc_gatherPieces c_Bc_gatherPieces 7 (some (.boolean)) ∈ gw := gw_at 395 (by decide +kernel) (by decide +kernel)
theorem kM_8_258 : Cond.methodLink RX8 258 y_Pl_addPiece ∈ gw := gw_at 396 (by decide +kernel) (by decide +kernel)
theorem kI_Pl_addPiece : Cond.instanceMethod y_Pl_addPiece ∈ gw := gw_at 397 (by decide +kernel) (by decide +kernel)
theorem kV_Pl_addPiece : Cond.selects RX3 y_Pl_addPiece y_Pl_addPiece ∈ gw := gw_at 398 (by decide +kernel) (by decide +kernel)
theorem kC_Pl_addPiece : Cond.code y_Pl_addPiece c_Pl_addPiece 5 none ∈ gw := gw_at 399 (by decide +kernel) (by decide +kernel)
theorem kM_8_253 : Cond.methodLink RX8 253 y_Ff_cut ∈ gw := gw_at 400 (by decide +kernel) (by decide +kernel)
theorem kI_Ff_cut : Cond.instanceMethod y_Ff_cut ∈ gw := gw_at 401 (by decide +kernel) (by decide +kernel)
theorem kV_Ff_cut : Cond.selects RX0 y_Ff_cut y_Ff_cut ∈ gw := gw_at 402 (by decide +kernel) (by decide +kernel)
theorem kC_Ff_cut : Cond.code y_Ff_cut c_Ff_cut 10 (some (.boolean)) ∈ gw := gw_at 403 (by decide +kernel) (by decide +kernel)
theorem kM_0_25 : Cond.methodLink RX0 25 ⟨"java/lang/System", "arraycopy", "(Ljava/lang/Object;ILjava/lang/Object;II)V"⟩ ∈ gw := gw_at 404 (by decide +kernel) (by decide +kernel)
theorem kS_copy : Cond.static arraycopyName ∈ gw := gw_at 405 (by decide +kernel) (by decide +kernel)
theorem kN_copy : Cond.native arraycopyName ∈ gw := gw_at 406 (by decide +kernel) (by decide +kernel)
theorem kM_0_37 : Cond.methodLink RX0 37 y_Ff_firstWithRoom ∈ gw := gw_at 407 (by decide +kernel) (by decide +kernel)
theorem kS_Ff_firstWithRoom : Cond.static y_Ff_firstWithRoom ∈ gw := gw_at 408 (by decide +kernel) (by decide +kernel)
theorem kC_Ff_firstWithRoom : Cond.code y_Ff_firstWithRoom c_Ff_firstWithRoom 4 (some (.int)) ∈ gw := gw_at 409 (by decide +kernel) (by decide +kernel)
theorem kM_0_41 : Cond.methodLink RX0 41 y_Ff_leastKindFor ∈ gw := gw_at 410 (by decide +kernel) (by decide +kernel)
theorem kI_Ff_leastKindFor : Cond.instanceMethod y_Ff_leastKindFor ∈ gw := gw_at 412 (by decide +kernel) (by decide +kernel)
theorem kC_Ff_leastKindFor : Cond.code y_Ff_leastKindFor c_Ff_leastKindFor 6 (some (.int)) ∈ gw := gw_at 413 (by decide +kernel) (by decide +kernel)
theorem kM_0_48 : Cond.methodLink RX0 48 y_Pl_openBar ∈ gw := gw_at 414 (by decide +kernel) (by decide +kernel)
theorem kI_Pl_openBar : Cond.instanceMethod y_Pl_openBar ∈ gw := gw_at 415 (by decide +kernel) (by decide +kernel)
theorem kV_Pl_openBar : Cond.selects RX3 y_Pl_openBar y_Pl_openBar ∈ gw := gw_at 416 (by decide +kernel) (by decide +kernel)
theorem kC_Pl_openBar : Cond.code y_Pl_openBar c_Pl_openBar 3 (some (.int)) ∈ gw := gw_at 417 (by decide +kernel) (by decide +kernel)
theorem kM_0_52 : Cond.methodLink RX0 52 y_Pl_putPiece ∈ gw := gw_at 418 (by decide +kernel) (by decide +kernel)
theorem kI_Pl_putPiece : Cond.instanceMethod y_Pl_putPiece ∈ gw := gw_at 419 (by decide +kernel) (by decide +kernel)
theorem kV_Pl_putPiece : Cond.selects RX3 y_Pl_putPiece y_Pl_putPiece ∈ gw := gw_at 420 (by decide +kernel) (by decide +kernel)
theorem kC_Pl_putPiece : Cond.code y_Pl_putPiece c_Pl_putPiece 3 none ∈ gw := gw_at 421 (by decide +kernel) (by decide +kernel)
theorem kM_8_257 : Cond.methodLink RX8 257 y_Lw_cut ∈ gw := gw_at 422 (by decide +kernel) (by decide +kernel)
theorem kI_Lw_cut : Cond.instanceMethod y_Lw_cut ∈ gw := gw_at 423 (by decide +kernel) (by decide +kernel)
theorem kV_Lw_cut : Cond.selects RX1 y_Lw_cut y_Lw_cut ∈ gw := gw_at 424 (by decide +kernel) (by decide +kernel)
theorem kC_Lw_cut : Cond.code y_Lw_cut c_Lw_cut 6 (some (.boolean)) ∈ gw := gw_at 425 (by decide +kernel) (by decide +kernel)
theorem kM_1_49 : Cond.methodLink RX1 49 ⟨"java/lang/System", "arraycopy", "(Ljava/lang/Object;ILjava/lang/Object;II)V"⟩ ∈ gw := gw_at 426 (by decide +kernel) (by decide +kernel)
theorem kM_1_58 : Cond.methodLink RX1 58 y_Lw_sumSets ∈ gw := gw_at 427 (by decide +kernel) (by decide +kernel)
theorem kI_Lw_sumSets : Cond.instanceMethod y_Lw_sumSets ∈ gw := gw_at 429 (by decide +kernel) (by decide +kernel)
theorem kC_Lw_sumSets : Cond.code y_Lw_sumSets c_Lw_sumSets 8 none ∈ gw := gw_at 430 (by decide +kernel) (by decide +kernel)
theorem kM_1_62 : Cond.methodLink RX1 62 y_Lw_findFloors ∈ gw := gw_at 431 (by decide +kernel) (by decide +kernel)
theorem kI_Lw_findFloors : Cond.instanceMethod y_Lw_findFloors ∈ gw := gw_at 433 (by decide +kernel) (by decide +kernel)
theorem kC_Lw_findFloors : Cond.code y_Lw_findFloors c_Lw_findFloors 6 none ∈ gw := gw_at 434 (by decide +kernel) (by decide +kernel)
theorem kM_1_84 : Cond.methodLink RX1 84 y_Lw_highestBit ∈ gw := gw_at 435 (by decide +kernel) (by decide +kernel)
theorem kS_Lw_highestBit : Cond.static y_Lw_highestBit ∈ gw := gw_at 436 (by decide +kernel) (by decide +kernel)
theorem kC_Lw_highestBit : Cond.code y_Lw_highestBit c_Lw_highestBit 2 (some (.int)) ∈ gw := gw_at 437 (by decide +kernel) (by decide +kernel)
theorem kK_1_66 : Cond.constant RX1 66 268435456 ∈ gw := gw_at 438 (by decide +kernel) (by decide +kernel)
theorem kM_1_88 : Cond.methodLink RX1 88 y_Lw_costOfCheapestBar ∈ gw := gw_at 439 (by decide +kernel) (by decide +kernel)
theorem kI_Lw_costOfCheapestBar : Cond.instanceMethod y_Lw_costOfCheapestBar ∈ gw := gw_at 441 (by decide +kernel) (by decide +kernel)
theorem kC_Lw_costOfCheapestBar : Cond.code y_Lw_costOfCheapestBar c_Lw_costOfCheapestBar 4 (some (.int)) ∈ gw := gw_at 442 (by decide +kernel) (by decide +kernel)
theorem kM_1_97 : Cond.methodLink RX1 97 y_Lw_costOfBar ∈ gw := gw_at 443 (by decide +kernel) (by decide +kernel)
theorem kI_Lw_costOfBar : Cond.instanceMethod y_Lw_costOfBar ∈ gw := gw_at 445 (by decide +kernel) (by decide +kernel)
theorem kC_Lw_costOfBar : Cond.code y_Lw_costOfBar c_Lw_costOfBar 2 (some (.int)) ∈ gw := gw_at 446 (by decide +kernel) (by decide +kernel)
theorem kM_1_91 : Cond.methodLink RX1 91 ⟨"java/lang/Math", "min", "(II)I"⟩ ∈ gw := gw_at 447 (by decide +kernel) (by decide +kernel)
theorem kS_min : Cond.static Lib.Math.min.name ∈ gw := gw_at 448 (by decide +kernel) (by decide +kernel)
theorem kC_min : Cond.code Lib.Math.min.name Lib.Math.min.code 2 (some .int) ∈ gw := gw_at 449 (by decide +kernel) (by decide +kernel)
theorem kM_1_73 : Cond.methodLink RX1 73 y_Lw_search ∈ gw := gw_at 450 (by decide +kernel) (by decide +kernel)
theorem kI_Lw_search : Cond.instanceMethod y_Lw_search ∈ gw := gw_at 452 (by decide +kernel) (by decide +kernel)
theorem kC_Lw_search : Cond.code y_Lw_search c_Lw_search 5 none ∈ gw := gw_at 453 (by decide +kernel) (by decide +kernel)
theorem kM_1_100 : Cond.methodLink RX1 100 y_Lw_keep ∈ gw := gw_at 454 (by decide +kernel) (by decide +kernel)
theorem kI_Lw_keep : Cond.instanceMethod y_Lw_keep ∈ gw := gw_at 456 (by decide +kernel) (by decide +kernel)
theorem kC_Lw_keep : Cond.code y_Lw_keep c_Lw_keep 4 none ∈ gw := gw_at 457 (by decide +kernel) (by decide +kernel)
theorem kM_1_104 : Cond.methodLink RX1 104 y_Lw_searchRows ∈ gw := gw_at 458 (by decide +kernel) (by decide +kernel)
theorem kI_Lw_searchRows : Cond.instanceMethod y_Lw_searchRows ∈ gw := gw_at 460 (by decide +kernel) (by decide +kernel)
theorem kC_Lw_searchRows : Cond.code y_Lw_searchRows c_Lw_searchRows 7 none ∈ gw := gw_at 461 (by decide +kernel) (by decide +kernel)
theorem kM_1_77 : Cond.methodLink RX1 77 y_Lw_writeBest ∈ gw := gw_at 462 (by decide +kernel) (by decide +kernel)
theorem kI_Lw_writeBest : Cond.instanceMethod y_Lw_writeBest ∈ gw := gw_at 464 (by decide +kernel) (by decide +kernel)
theorem kC_Lw_writeBest : Cond.code y_Lw_writeBest c_Lw_writeBest 7 (some (.boolean)) ∈ gw := gw_at 465 (by decide +kernel) (by decide +kernel)
theorem kM_1_107 : Cond.methodLink RX1 107 y_Pl_openBar ∈ gw := gw_at 466 (by decide +kernel) (by decide +kernel)
theorem kM_1_110 : Cond.methodLink RX1 110 y_Pl_putPiece ∈ gw := gw_at 467 (by decide +kernel) (by decide +kernel)
theorem kM_L_55 : Cond.methodLink RL 55 y_Bc_loss ∈ gw := gw_at 468 (by decide +kernel) (by decide +kernel)
theorem kI_Bc_loss : Cond.instanceMethod y_Bc_loss ∈ gw := gw_at 469 (by decide +kernel) (by decide +kernel)
theorem kV_Bc_loss : Cond.selects RX8 y_Bc_loss y_Bc_loss ∈ gw := gw_at 470 (by decide +kernel) (by decide +kernel)
theorem kC_Bc_loss : Cond.code y_Bc_loss c_Bc_loss 2 (some (.long)) ∈ gw := gw_at 471 (by decide +kernel) (by decide +kernel)
theorem kM_8_152 : Cond.methodLink RX8 152 y_Pl_sumOfBars ∈ gw := gw_at 472 (by decide +kernel) (by decide +kernel)
theorem kI_Pl_sumOfBars : Cond.instanceMethod y_Pl_sumOfBars ∈ gw := gw_at 473 (by decide +kernel) (by decide +kernel)
theorem kV_Pl_sumOfBars : Cond.selects RX3 y_Pl_sumOfBars y_Pl_sumOfBars ∈ gw := gw_at 474 (by decide +kernel) (by decide +kernel)
theorem kC_Pl_sumOfBars : Cond.code y_Pl_sumOfBars c_Pl_sumOfBars 3 (some (.int)) ∈ gw := gw_at 475 (by decide +kernel) (by decide +kernel)
theorem kM_8_155 : Cond.methodLink RX8 155 y_Pl_sumOfPieces ∈ gw := gw_at 476 (by decide +kernel) (by decide +kernel)
theorem kI_Pl_sumOfPieces : Cond.instanceMethod y_Pl_sumOfPieces ∈ gw := gw_at 477 (by decide +kernel) (by decide +kernel)
theorem kV_Pl_sumOfPieces : Cond.selects RX3 y_Pl_sumOfPieces y_Pl_sumOfPieces ∈ gw := gw_at 478 (by decide +kernel) (by decide +kernel)
theorem kC_Pl_sumOfPieces : Cond.code y_Pl_sumOfPieces c_Pl_sumOfPieces 3 (some (.int)) ∈ gw := gw_at 479 (by decide +kernel) (by decide +kernel)
theorem kM_L_60 : Cond.methodLink RL 60 y_Bc_bound ∈ gw := gw_at 480 (by decide +kernel) (by decide +kernel)
theorem kI_Bc_bound : Cond.instanceMethod y_Bc_bound ∈ gw := gw_at 481 (by decide +kernel) (by decide +kernel)
theorem kV_Bc_bound : Cond.selects RX8 y_Bc_bound y_Bc_bound ∈ gw := gw_at 482 (by decide +kernel) (by decide +kernel)
theorem kC_Bc_bound : Cond.code y_Bc_bound c_Bc_bound 2 (some (.long)) ∈ gw := gw_at 483 (by decide +kernel) (by decide +kernel)
theorem kM_L_64 : Cond.methodLink RL 64 y_Bc_proved ∈ gw := gw_at 484 (by decide +kernel) (by decide +kernel)
theorem kI_Bc_proved : Cond.instanceMethod y_Bc_proved ∈ gw := gw_at 485 (by decide +kernel) (by decide +kernel)
theorem kV_Bc_proved : Cond.selects RX8 y_Bc_proved y_Bc_proved ∈ gw := gw_at 486 (by decide +kernel) (by decide +kernel)
theorem kC_Bc_proved : Cond.code y_Bc_proved c_Bc_proved 1 (some (.boolean)) ∈ gw := gw_at 487 (by decide +kernel) (by decide +kernel)
theorem kM_L_69 : Cond.methodLink RL 69 y_Bc_pattern ∈ gw := gw_at 488 (by decide +kernel) (by decide +kernel)
theorem kI_Bc_pattern : Cond.instanceMethod y_Bc_pattern ∈ gw := gw_at 489 (by decide +kernel) (by decide +kernel)
theorem kV_Bc_pattern : Cond.selects RX8 y_Bc_pattern y_Bc_pattern ∈ gw := gw_at 490 (by decide +kernel) (by decide +kernel)
theorem kC_Bc_pattern : Cond.code y_Bc_pattern c_Bc_pattern 3 (some (.int)) ∈ gw := gw_at 491 (by decide +kernel) (by decide +kernel)
theorem kM_8_173 : Cond.methodLink RX8 173 y_Pl_lineOfPiece ∈ gw := gw_at 492 (by decide +kernel) (by decide +kernel)
theorem kI_Pl_lineOfPiece : Cond.instanceMethod y_Pl_lineOfPiece ∈ gw := gw_at 493 (by decide +kernel) (by decide +kernel)
theorem kV_Pl_lineOfPiece : Cond.selects RX3 y_Pl_lineOfPiece y_Pl_lineOfPiece ∈ gw := gw_at 494 (by decide +kernel) (by decide +kernel)
theorem kC_Pl_lineOfPiece : Cond.code y_Pl_lineOfPiece c_Pl_lineOfPiece 5 (some (.int)) ∈ gw := gw_at 495 (by decide +kernel) (by decide +kernel)
theorem kM_L_74 : Cond.methodLink RL 74 y_Bc_place ∈ gw := gw_at 496 (by decide +kernel) (by decide +kernel)
theorem kI_Bc_place : Cond.instanceMethod y_Bc_place ∈ gw := gw_at 497 (by decide +kernel) (by decide +kernel)
theorem kV_Bc_place : Cond.selects RX8 y_Bc_place y_Bc_place ∈ gw := gw_at 498 (by decide +kernel) (by decide +kernel)
theorem kC_Bc_place : Cond.code y_Bc_place c_Bc_place 9 (some (.boolean)) ∈ gw := gw_at 499 (by decide +kernel) (by decide +kernel)
theorem kM_8_177 : Cond.methodLink RX8 177 y_Bc_isPlace ∈ gw := gw_at 500 (by decide +kernel) (by decide +kernel)
theorem kS_Bc_isPlace : Cond.static y_Bc_isPlace ∈ gw := gw_at 501 (by decide +kernel) (by decide +kernel)
theorem kC_Bc_isPlace : Cond.code y_Bc_isPlace c_Bc_isPlace 2 (some (.boolean)) ∈ gw := gw_at 502 (by decide +kernel) (by decide +kernel)
theorem kK_8_235 : Cond.constantLong RX8 235 (-100000) ∈ gw := gw_at 503 (by decide +kernel) (by decide +kernel)
theorem kK_8_237 : Cond.constantLong RX8 237 100000 ∈ gw := gw_at 504 (by decide +kernel) (by decide +kernel)
theorem kM_L_79 : Cond.methodLink RL 79 y_Bc_command ∈ gw := gw_at 505 (by decide +kernel) (by decide +kernel)
theorem kI_Bc_command : Cond.instanceMethod y_Bc_command ∈ gw := gw_at 506 (by decide +kernel) (by decide +kernel)
theorem kV_Bc_command : Cond.selects RX8 y_Bc_command y_Bc_command ∈ gw := gw_at 507 (by decide +kernel) (by decide +kernel)
theorem kC_Bc_command : Cond.code y_Bc_command c_Bc_command 5 (some (.int)) ∈ gw := gw_at 508 (by decide +kernel) (by decide +kernel)
theorem kM_8_193 : Cond.methodLink RX8 193 y_Ln_allLegsTold ∈ gw := gw_at 509 (by decide +kernel) (by decide +kernel)
theorem kI_Ln_allLegsTold : Cond.instanceMethod y_Ln_allLegsTold ∈ gw := gw_at 510 (by decide +kernel) (by decide +kernel)
theorem kV_Ln_allLegsTold : Cond.selects RX2 y_Ln_allLegsTold y_Ln_allLegsTold ∈ gw := gw_at 511 (by decide +kernel) (by decide +kernel)
theorem kC_Ln_allLegsTold : Cond.code y_Ln_allLegsTold c_Ln_allLegsTold 2 (some (.boolean)) ∈ gw := gw_at 512 (by decide +kernel) (by decide +kernel)
theorem kM_8_197 : Cond.methodLink RX8 197 y_Tr_follow ∈ gw := gw_at 513 (by decide +kernel) (by decide +kernel)
theorem kI_Tr_follow : Cond.instanceMethod y_Tr_follow ∈ gw := gw_at 514 (by decide +kernel) (by decide +kernel)
theorem kV_Tr_follow : Cond.selects RX7 y_Tr_follow y_Tr_follow ∈ gw := gw_at 515 (by decide +kernel) (by decide +kernel)
theorem kC_Tr_follow : Cond.code y_Tr_follow c_Tr_follow 8 none ∈ gw := gw_at 516 (by decide +kernel) (by decide +kernel)
theorem kM_7_51 : Cond.methodLink RX7 51 y_Sh_bendBefore ∈ gw := gw_at 517 (by decide +kernel) (by decide +kernel)
theorem kI_Sh_bendBefore : Cond.instanceMethod y_Sh_bendBefore ∈ gw := gw_at 518 (by decide +kernel) (by decide +kernel)
theorem kV_Sh_bendBefore : Cond.selects RX4 y_Sh_bendBefore y_Sh_bendBefore ∈ gw := gw_at 519 (by decide +kernel) (by decide +kernel)
theorem kC_Sh_bendBefore : Cond.code y_Sh_bendBefore c_Sh_bendBefore 3 (some (.int)) ∈ gw := gw_at 520 (by decide +kernel) (by decide +kernel)
theorem kM_7_58 : Cond.methodLink RX7 58 y_Tr_go ∈ gw := gw_at 521 (by decide +kernel) (by decide +kernel)
theorem kI_Tr_go : Cond.instanceMethod y_Tr_go ∈ gw := gw_at 523 (by decide +kernel) (by decide +kernel)
theorem kC_Tr_go : Cond.code y_Tr_go c_Tr_go 4 none ∈ gw := gw_at 524 (by decide +kernel) (by decide +kernel)
theorem kM_L_83 : Cond.methodLink RL 83 y_Bc_clash ∈ gw := gw_at 525 (by decide +kernel) (by decide +kernel)
theorem kI_Bc_clash : Cond.instanceMethod y_Bc_clash ∈ gw := gw_at 526 (by decide +kernel) (by decide +kernel)
theorem kV_Bc_clash : Cond.selects RX8 y_Bc_clash y_Bc_clash ∈ gw := gw_at 527 (by decide +kernel) (by decide +kernel)
theorem kC_Bc_clash : Cond.code y_Bc_clash c_Bc_clash 11 (some (.int)) ∈ gw := gw_at 528 (by decide +kernel) (by decide +kernel)
theorem kK_8_210 : Cond.constantLong RX8 210 4 ∈ gw := gw_at 529 (by decide +kernel) (by decide +kernel)
theorem kM_8_212 : Cond.methodLink RX8 212 y_Tr_leastSquareTo ∈ gw := gw_at 530 (by decide +kernel) (by decide +kernel)
theorem kI_Tr_leastSquareTo : Cond.instanceMethod y_Tr_leastSquareTo ∈ gw := gw_at 531 (by decide +kernel) (by decide +kernel)
theorem kV_Tr_leastSquareTo : Cond.selects RX7 y_Tr_leastSquareTo y_Tr_leastSquareTo ∈ gw := gw_at 532 (by decide +kernel) (by decide +kernel)
theorem kC_Tr_leastSquareTo : Cond.code y_Tr_leastSquareTo c_Tr_leastSquareTo 10 (some (.long)) ∈ gw := gw_at 533 (by decide +kernel) (by decide +kernel)
theorem kK_7_64 : Cond.constantLong RX7 64 1152921504606846976 ∈ gw := gw_at 534 (by decide +kernel) (by decide +kernel)
theorem kM_7_66 : Cond.methodLink RX7 66 y_Tr_gap ∈ gw := gw_at 535 (by decide +kernel) (by decide +kernel)
theorem kS_Tr_gap : Cond.static y_Tr_gap ∈ gw := gw_at 536 (by decide +kernel) (by decide +kernel)
theorem kC_Tr_gap : Cond.code y_Tr_gap c_Tr_gap 6 (some (.int)) ∈ gw := gw_at 537 (by decide +kernel) (by decide +kernel)
theorem kM_7_76 : Cond.methodLink RX7 76 ⟨"java/lang/Math", "min", "(II)I"⟩ ∈ gw := gw_at 538 (by decide +kernel) (by decide +kernel)
theorem kM_7_79 : Cond.methodLink RX7 79 ⟨"java/lang/Math", "max", "(II)I"⟩ ∈ gw := gw_at 539 (by decide +kernel) (by decide +kernel)
theorem kM_7_70 : Cond.methodLink RX7 70 ⟨"java/lang/Math", "min", "(JJ)J"⟩ ∈ gw := gw_at 540 (by decide +kernel) (by decide +kernel)
theorem kS_minl : Cond.static Lib.MathLoose.min_long.x ∈ gw := gw_at 541 (by decide +kernel) (by decide +kernel)
theorem kC_minl : Cond.code Lib.MathLoose.min_long.x Lib.MathLoose.min_long.code 4 (some .long) ∈ gw := gw_at 542 (by decide +kernel) (by decide +kernel)
theorem kM_L_87 : Cond.methodLink RL 87 y_Bc_lap ∈ gw := gw_at 543 (by decide +kernel) (by decide +kernel)
theorem kI_Bc_lap : Cond.instanceMethod y_Bc_lap ∈ gw := gw_at 544 (by decide +kernel) (by decide +kernel)
theorem kV_Bc_lap : Cond.selects RX8 y_Bc_lap y_Bc_lap ∈ gw := gw_at 545 (by decide +kernel) (by decide +kernel)
theorem kC_Bc_lap : Cond.code y_Bc_lap c_Bc_lap 9 (some (.int)) ∈ gw := gw_at 546 (by decide +kernel) (by decide +kernel)
theorem kK_8_216 : Cond.constantLong RX8 216 5000 ∈ gw := gw_at 547 (by decide +kernel) (by decide +kernel)
theorem kM_8_218 : Cond.methodLink RX8 218 y_Sf_greatest ∈ gw := gw_at 548 (by decide +kernel) (by decide +kernel)
theorem kI_Sf_greatest : Cond.instanceMethod y_Sf_greatest ∈ gw := gw_at 549 (by decide +kernel) (by decide +kernel)
theorem kV_Sf_greatest : Cond.selects RX5 y_Sf_greatest y_Sf_greatest ∈ gw := gw_at 550 (by decide +kernel) (by decide +kernel)
theorem kC_Sf_greatest : Cond.code y_Sf_greatest c_Sf_greatest 3 (some (.int)) ∈ gw := gw_at 551 (by decide +kernel) (by decide +kernel)
theorem kM_5_22 : Cond.methodLink RX5 22 ⟨"java/lang/Math", "max", "(II)I"⟩ ∈ gw := gw_at 552 (by decide +kernel) (by decide +kernel)
theorem kM_L_92 : Cond.methodLink RL 92 y_Bc_weight ∈ gw := gw_at 553 (by decide +kernel) (by decide +kernel)
theorem kI_Bc_weight : Cond.instanceMethod y_Bc_weight ∈ gw := gw_at 554 (by decide +kernel) (by decide +kernel)
theorem kV_Bc_weight : Cond.selects RX8 y_Bc_weight y_Bc_weight ∈ gw := gw_at 555 (by decide +kernel) (by decide +kernel)
theorem kC_Bc_weight : Cond.code y_Bc_weight c_Bc_weight 7 (some (.long)) ∈ gw := gw_at 556 (by decide +kernel) (by decide +kernel)
theorem kM_8_221 : Cond.methodLink RX8 221 y_Bc_greatestCommonWithDivisor ∈ gw := gw_at 557 (by decide +kernel) (by decide +kernel)
theorem kS_Bc_greatestCommonWithDivisor : Cond.static y_Bc_greatestCommonWithDivisor ∈ gw := gw_at 558 (by decide +kernel) (by decide +kernel)
theorem kC_Bc_greatestCommonWithDivisor : Cond.code y_Bc_greatestCommonWithDivisor c_Bc_greatestCommonWithDivisor 3 (some (.int)) ∈ gw := gw_at 559 (by decide +kernel) (by decide +kernel)
theorem kM_L_96 : Cond.methodLink RL 96 y_Bc_tag ∈ gw := gw_at 560 (by decide +kernel) (by decide +kernel)
theorem kI_Bc_tag : Cond.instanceMethod y_Bc_tag ∈ gw := gw_at 561 (by decide +kernel) (by decide +kernel)
theorem kV_Bc_tag : Cond.selects RX8 y_Bc_tag y_Bc_tag ∈ gw := gw_at 562 (by decide +kernel) (by decide +kernel)
theorem kC_Bc_tag : Cond.code y_Bc_tag c_Bc_tag 4 (some (.int)) ∈ gw := gw_at 563 (by decide +kernel) (by decide +kernel)
theorem kM_8_225 : Cond.methodLink RX8 225 y_Ln_signOfTag ∈ gw := gw_at 564 (by decide +kernel) (by decide +kernel)
theorem kI_Ln_signOfTag : Cond.instanceMethod y_Ln_signOfTag ∈ gw := gw_at 565 (by decide +kernel) (by decide +kernel)
theorem kV_Ln_signOfTag : Cond.selects RX2 y_Ln_signOfTag y_Ln_signOfTag ∈ gw := gw_at 566 (by decide +kernel) (by decide +kernel)
theorem kC_Ln_signOfTag : Cond.code y_Ln_signOfTag c_Ln_signOfTag 5 (some (.int)) ∈ gw := gw_at 567 (by decide +kernel) (by decide +kernel)
theorem kM_L_100 : Cond.methodLink RL 100 y_Bc_differs ∈ gw := gw_at 568 (by decide +kernel) (by decide +kernel)
theorem kI_Bc_differs : Cond.instanceMethod y_Bc_differs ∈ gw := gw_at 569 (by decide +kernel) (by decide +kernel)
theorem kV_Bc_differs : Cond.selects RX8 y_Bc_differs y_Bc_differs ∈ gw := gw_at 570 (by decide +kernel) (by decide +kernel)
theorem kC_Bc_differs : Cond.code y_Bc_differs c_Bc_differs 8 (some (.int)) ∈ gw := gw_at 571 (by decide +kernel) (by decide +kernel)
theorem kM_8_229 : Cond.methodLink RX8 229 y_Ln_thing ∈ gw := gw_at 572 (by decide +kernel) (by decide +kernel)
theorem kI_Ln_thing : Cond.instanceMethod y_Ln_thing ∈ gw := gw_at 573 (by decide +kernel) (by decide +kernel)
theorem kV_Ln_thing : Cond.selects RX2 y_Ln_thing y_Ln_thing ∈ gw := gw_at 574 (by decide +kernel) (by decide +kernel)
theorem kC_Ln_thing : Cond.code y_Ln_thing c_Ln_thing 3 (some (.int)) ∈ gw := gw_at 575 (by decide +kernel) (by decide +kernel)
theorem kM_L_104 : Cond.methodLink RL 104 y_Bc_order ∈ gw := gw_at 576 (by decide +kernel) (by decide +kernel)
theorem kI_Bc_order : Cond.instanceMethod y_Bc_order ∈ gw := gw_at 577 (by decide +kernel) (by decide +kernel)
theorem kV_Bc_order : Cond.selects RX8 y_Bc_order y_Bc_order ∈ gw := gw_at 578 (by decide +kernel) (by decide +kernel)
theorem kC_Bc_order : Cond.code y_Bc_order c_Bc_order 3 (some (.int)) ∈ gw := gw_at 579 (by decide +kernel) (by decide +kernel)
theorem kM_8_232 : Cond.methodLink RX8 232 y_Bc_linesBentBefore ∈ gw := gw_at 580 (by decide +kernel) (by decide +kernel)
theorem kI_Bc_linesBentBefore : Cond.instanceMethod y_Bc_linesBentBefore ∈ gw := gw_at 582 (by decide +kernel) (by decide +kernel)
theorem kC_Bc_linesBentBefore : Cond.code y_Bc_linesBentBefore c_Bc_linesBentBefore 4 (some (.int)) ∈ gw := gw_at 583 (by decide +kernel) (by decide +kernel)
theorem kM_8_262 : Cond.methodLink RX8 262 y_Bc_isBentBefore ∈ gw := gw_at 584 (by decide +kernel) (by decide +kernel)
theorem kI_Bc_isBentBefore : Cond.instanceMethod y_Bc_isBentBefore ∈ gw := gw_at 586 (by decide +kernel) (by decide +kernel)
theorem kC_Bc_isBentBefore : Cond.code y_Bc_isBentBefore c_Bc_isBentBefore 5 (some (.boolean)) ∈ gw := gw_at 587 (by decide +kernel) (by decide +kernel)
theorem kL_L_10 : Cond.classLink RL 10 RX9 ∈ gw := gw_at 588 (by decide +kernel) (by decide +kernel)
theorem kN_9 : Cond.instantiable RX9 46 ∈ gw := gw_at 589 (by decide +kernel) (by decide +kernel)
theorem kM_L_12 : Cond.methodLink RL 12 y_Md_init ∈ gw := gw_at 590 (by decide +kernel) (by decide +kernel)
theorem kI_Md_init : Cond.instanceMethod y_Md_init ∈ gw := gw_at 591 (by decide +kernel) (by decide +kernel)
theorem kC_Md_init : Cond.code y_Md_init c_Md_init 1 none ∈ gw := gw_at 592 (by decide +kernel) (by decide +kernel)
theorem kM_9_1 : Cond.methodLink RX9 1 Lib.objectInit ∈ gw := gw_at 593 (by decide +kernel) (by decide +kernel)
theorem kF_9_7 : Cond.fieldLink RX9 7 "BarCuttingModel" "text" "[I" ∈ gw := gw_at 594 (by decide +kernel) (by decide +kernel)
theorem kF_9_132 : Cond.fieldLink RX9 132 "BarCuttingModel" "size" "I" ∈ gw := gw_at 595 (by decide +kernel) (by decide +kernel)
theorem kF_9_139 : Cond.fieldLink RX9 139 "BarCuttingModel" "shapes" "I" ∈ gw := gw_at 596 (by decide +kernel) (by decide +kernel)
theorem kF_9_13 : Cond.fieldLink RX9 13 "BarCuttingModel" "legCount" "[I" ∈ gw := gw_at 597 (by decide +kernel) (by decide +kernel)
theorem kF_9_16 : Cond.fieldLink RX9 16 "BarCuttingModel" "bends" "[I" ∈ gw := gw_at 598 (by decide +kernel) (by decide +kernel)
theorem kF_9_19 : Cond.fieldLink RX9 19 "BarCuttingModel" "rules" "[J" ∈ gw := gw_at 599 (by decide +kernel) (by decide +kernel)
theorem kF_9_120 : Cond.fieldLink RX9 120 "BarCuttingModel" "lines" "I" ∈ gw := gw_at 600 (by decide +kernel) (by decide +kernel)
theorem kF_9_23 : Cond.fieldLink RX9 23 "BarCuttingModel" "shapeOf" "[I" ∈ gw := gw_at 601 (by decide +kernel) (by decide +kernel)
theorem kF_9_26 : Cond.fieldLink RX9 26 "BarCuttingModel" "diameterOf" "[I" ∈ gw := gw_at 602 (by decide +kernel) (by decide +kernel)
theorem kF_9_29 : Cond.fieldLink RX9 29 "BarCuttingModel" "manyOf" "[I" ∈ gw := gw_at 603 (by decide +kernel) (by decide +kernel)
theorem kF_9_32 : Cond.fieldLink RX9 32 "BarCuttingModel" "legs" "[J" ∈ gw := gw_at 604 (by decide +kernel) (by decide +kernel)
theorem kF_9_35 : Cond.fieldLink RX9 35 "BarCuttingModel" "placed" "[Z" ∈ gw := gw_at 605 (by decide +kernel) (by decide +kernel)
theorem kF_9_39 : Cond.fieldLink RX9 39 "BarCuttingModel" "placeX" "[J" ∈ gw := gw_at 606 (by decide +kernel) (by decide +kernel)
theorem kF_9_42 : Cond.fieldLink RX9 42 "BarCuttingModel" "placeY" "[J" ∈ gw := gw_at 607 (by decide +kernel) (by decide +kernel)
theorem kF_9_45 : Cond.fieldLink RX9 45 "BarCuttingModel" "placeZ" "[J" ∈ gw := gw_at 608 (by decide +kernel) (by decide +kernel)
theorem kF_9_48 : Cond.fieldLink RX9 48 "BarCuttingModel" "kinds" "[I" ∈ gw := gw_at 609 (by decide +kernel) (by decide +kernel)
theorem kF_9_51 : Cond.fieldLink RX9 51 "BarCuttingModel" "kindLength" "[J" ∈ gw := gw_at 610 (by decide +kernel) (by decide +kernel)
theorem kF_9_54 : Cond.fieldLink RX9 54 "BarCuttingModel" "kindMany" "[I" ∈ gw := gw_at 611 (by decide +kernel) (by decide +kernel)
theorem kF_9_57 : Cond.fieldLink RX9 57 "BarCuttingModel" "left" "[I" ∈ gw := gw_at 612 (by decide +kernel) (by decide +kernel)
theorem kF_9_175 : Cond.fieldLink RX9 175 "BarCuttingModel" "pieces" "I" ∈ gw := gw_at 613 (by decide +kernel) (by decide +kernel)
theorem kF_9_60 : Cond.fieldLink RX9 60 "BarCuttingModel" "pieceLine" "[I" ∈ gw := gw_at 614 (by decide +kernel) (by decide +kernel)
theorem kF_9_63 : Cond.fieldLink RX9 63 "BarCuttingModel" "pieceLength" "[J" ∈ gw := gw_at 615 (by decide +kernel) (by decide +kernel)
theorem kF_9_66 : Cond.fieldLink RX9 66 "BarCuttingModel" "remains" "[I" ∈ gw := gw_at 616 (by decide +kernel) (by decide +kernel)
theorem kF_9_69 : Cond.fieldLink RX9 69 "BarCuttingModel" "wayKind" "[I" ∈ gw := gw_at 617 (by decide +kernel) (by decide +kernel)
theorem kF_9_72 : Cond.fieldLink RX9 72 "BarCuttingModel" "waySet" "[I" ∈ gw := gw_at 618 (by decide +kernel) (by decide +kernel)
theorem kF_9_75 : Cond.fieldLink RX9 75 "BarCuttingModel" "bestKind" "[I" ∈ gw := gw_at 619 (by decide +kernel) (by decide +kernel)
theorem kF_9_78 : Cond.fieldLink RX9 78 "BarCuttingModel" "bestSet" "[I" ∈ gw := gw_at 620 (by decide +kernel) (by decide +kernel)
theorem kF_9_148 : Cond.fieldLink RX9 148 "BarCuttingModel" "cut" "Z" ∈ gw := gw_at 621 (by decide +kernel) (by decide +kernel)
theorem kF_9_178 : Cond.fieldLink RX9 178 "BarCuttingModel" "bars" "I" ∈ gw := gw_at 622 (by decide +kernel) (by decide +kernel)
theorem kF_9_81 : Cond.fieldLink RX9 81 "BarCuttingModel" "barDiameter" "[I" ∈ gw := gw_at 623 (by decide +kernel) (by decide +kernel)
theorem kF_9_84 : Cond.fieldLink RX9 84 "BarCuttingModel" "barLength" "[J" ∈ gw := gw_at 624 (by decide +kernel) (by decide +kernel)
theorem kF_9_87 : Cond.fieldLink RX9 87 "BarCuttingModel" "barMany" "[I" ∈ gw := gw_at 625 (by decide +kernel) (by decide +kernel)
theorem kF_9_90 : Cond.fieldLink RX9 90 "BarCuttingModel" "barLines" "[I" ∈ gw := gw_at 626 (by decide +kernel) (by decide +kernel)
theorem kF_9_93 : Cond.fieldLink RX9 93 "BarCuttingModel" "barRoom" "[J" ∈ gw := gw_at 627 (by decide +kernel) (by decide +kernel)
theorem kF_9_200 : Cond.fieldLink RX9 200 "BarCuttingModel" "diameters" "I" ∈ gw := gw_at 628 (by decide +kernel) (by decide +kernel)
theorem kF_9_203 : Cond.fieldLink RX9 203 "BarCuttingModel" "exact" "I" ∈ gw := gw_at 629 (by decide +kernel) (by decide +kernel)
theorem kF_9_224 : Cond.fieldLink RX9 224 "BarCuttingModel" "pairs" "I" ∈ gw := gw_at 630 (by decide +kernel) (by decide +kernel)
theorem kF_9_96 : Cond.fieldLink RX9 96 "BarCuttingModel" "goesX" "[J" ∈ gw := gw_at 631 (by decide +kernel) (by decide +kernel)
theorem kF_9_99 : Cond.fieldLink RX9 99 "BarCuttingModel" "goesY" "[J" ∈ gw := gw_at 632 (by decide +kernel) (by decide +kernel)
theorem kF_9_102 : Cond.fieldLink RX9 102 "BarCuttingModel" "isLeg" "[Z" ∈ gw := gw_at 633 (by decide +kernel) (by decide +kernel)
theorem kF_9_105 : Cond.fieldLink RX9 105 "BarCuttingModel" "lowX" "[J" ∈ gw := gw_at 634 (by decide +kernel) (by decide +kernel)
theorem kF_9_108 : Cond.fieldLink RX9 108 "BarCuttingModel" "highX" "[J" ∈ gw := gw_at 635 (by decide +kernel) (by decide +kernel)
theorem kF_9_111 : Cond.fieldLink RX9 111 "BarCuttingModel" "lowY" "[J" ∈ gw := gw_at 636 (by decide +kernel) (by decide +kernel)
theorem kF_9_114 : Cond.fieldLink RX9 114 "BarCuttingModel" "highY" "[J" ∈ gw := gw_at 637 (by decide +kernel) (by decide +kernel)
theorem kF_9_117 : Cond.fieldLink RX9 117 "BarCuttingModel" "tagSigns" "[I" ∈ gw := gw_at 638 (by decide +kernel) (by decide +kernel)
theorem kF_9_251 : Cond.fieldLink RX9 251 "BarCuttingModel" "tagSize" "I" ∈ gw := gw_at 639 (by decide +kernel) (by decide +kernel)
theorem kA_long : Cond.arrayClass .long ∈ gw := gw_at 733 (by decide +kernel) (by decide +kernel)
theorem kM_L_17 : Cond.methodLink RL 17 y_Md_unit ∈ gw := gw_at 734 (by decide +kernel) (by decide +kernel)
theorem kI_Md_unit : Cond.instanceMethod y_Md_unit ∈ gw := gw_at 735 (by decide +kernel) (by decide +kernel)
theorem kV_Md_unit : Cond.selects RX9 y_Md_unit y_Md_unit ∈ gw := gw_at 736 (by decide +kernel) (by decide +kernel)
theorem kC_Md_unit : Cond.code y_Md_unit c_Md_unit 2 (some (.boolean)) ∈ gw := gw_at 737 (by decide +kernel) (by decide +kernel)
theorem kK_9_124 : Cond.constantLong RX9 124 32 ∈ gw := gw_at 738 (by decide +kernel) (by decide +kernel)
theorem kK_9_126 : Cond.constantLong RX9 126 126 ∈ gw := gw_at 739 (by decide +kernel) (by decide +kernel)
theorem kM_9_128 : Cond.methodLink RX9 128 y_Md_isIn ∈ gw := gw_at 740 (by decide +kernel) (by decide +kernel)
theorem kS_Md_isIn : Cond.static y_Md_isIn ∈ gw := gw_at 741 (by decide +kernel) (by decide +kernel)
theorem kC_Md_isIn : Cond.code y_Md_isIn c_Md_isIn 6 (some (.boolean)) ∈ gw := gw_at 742 (by decide +kernel) (by decide +kernel)
theorem kM_L_22 : Cond.methodLink RL 22 y_Md_shape ∈ gw := gw_at 743 (by decide +kernel) (by decide +kernel)
theorem kI_Md_shape : Cond.instanceMethod y_Md_shape ∈ gw := gw_at 744 (by decide +kernel) (by decide +kernel)
theorem kV_Md_shape : Cond.selects RX9 y_Md_shape y_Md_shape ∈ gw := gw_at 745 (by decide +kernel) (by decide +kernel)
theorem kC_Md_shape : Cond.code y_Md_shape c_Md_shape 5 (some (.int)) ∈ gw := gw_at 746 (by decide +kernel) (by decide +kernel)
theorem kM_9_135 : Cond.methodLink RX9 135 y_Md_bendOf ∈ gw := gw_at 747 (by decide +kernel) (by decide +kernel)
theorem kS_Md_bendOf : Cond.static y_Md_bendOf ∈ gw := gw_at 748 (by decide +kernel) (by decide +kernel)
theorem kC_Md_bendOf : Cond.code y_Md_bendOf c_Md_bendOf 1 (some (.int)) ∈ gw := gw_at 749 (by decide +kernel) (by decide +kernel)
theorem kM_L_29 : Cond.methodLink RL 29 y_Md_rule ∈ gw := gw_at 750 (by decide +kernel) (by decide +kernel)
theorem kI_Md_rule : Cond.instanceMethod y_Md_rule ∈ gw := gw_at 751 (by decide +kernel) (by decide +kernel)
theorem kV_Md_rule : Cond.selects RX9 y_Md_rule y_Md_rule ∈ gw := gw_at 752 (by decide +kernel) (by decide +kernel)
theorem kC_Md_rule : Cond.code y_Md_rule c_Md_rule 4 (some (.boolean)) ∈ gw := gw_at 753 (by decide +kernel) (by decide +kernel)
theorem kK_9_142 : Cond.constantLong RX9 142 4 ∈ gw := gw_at 754 (by decide +kernel) (by decide +kernel)
theorem kK_9_144 : Cond.constantLong RX9 144 40 ∈ gw := gw_at 755 (by decide +kernel) (by decide +kernel)
theorem kK_9_146 : Cond.constantLong RX9 146 500 ∈ gw := gw_at 756 (by decide +kernel) (by decide +kernel)
theorem kM_L_34 : Cond.methodLink RL 34 y_Md_bar ∈ gw := gw_at 757 (by decide +kernel) (by decide +kernel)
theorem kI_Md_bar : Cond.instanceMethod y_Md_bar ∈ gw := gw_at 758 (by decide +kernel) (by decide +kernel)
theorem kV_Md_bar : Cond.selects RX9 y_Md_bar y_Md_bar ∈ gw := gw_at 759 (by decide +kernel) (by decide +kernel)
theorem kC_Md_bar : Cond.code y_Md_bar c_Md_bar 4 (some (.int)) ∈ gw := gw_at 760 (by decide +kernel) (by decide +kernel)
theorem kK_9_152 : Cond.constantLong RX9 152 5 ∈ gw := gw_at 761 (by decide +kernel) (by decide +kernel)
theorem kM_L_39 : Cond.methodLink RL 39 y_Md_leg ∈ gw := gw_at 762 (by decide +kernel) (by decide +kernel)
theorem kI_Md_leg : Cond.instanceMethod y_Md_leg ∈ gw := gw_at 763 (by decide +kernel) (by decide +kernel)
theorem kV_Md_leg : Cond.selects RX9 y_Md_leg y_Md_leg ∈ gw := gw_at 764 (by decide +kernel) (by decide +kernel)
theorem kC_Md_leg : Cond.code y_Md_leg c_Md_leg 5 (some (.boolean)) ∈ gw := gw_at 765 (by decide +kernel) (by decide +kernel)
theorem kM_9_154 : Cond.methodLink RX9 154 y_Md_isLine ∈ gw := gw_at 766 (by decide +kernel) (by decide +kernel)
theorem kI_Md_isLine : Cond.instanceMethod y_Md_isLine ∈ gw := gw_at 768 (by decide +kernel) (by decide +kernel)
theorem kC_Md_isLine : Cond.code y_Md_isLine c_Md_isLine 2 (some (.boolean)) ∈ gw := gw_at 769 (by decide +kernel) (by decide +kernel)
theorem kK_9_158 : Cond.constantLong RX9 158 20000 ∈ gw := gw_at 770 (by decide +kernel) (by decide +kernel)
theorem kM_L_49 : Cond.methodLink RL 49 y_Md_stock ∈ gw := gw_at 771 (by decide +kernel) (by decide +kernel)
theorem kI_Md_stock : Cond.instanceMethod y_Md_stock ∈ gw := gw_at 772 (by decide +kernel) (by decide +kernel)
theorem kV_Md_stock : Cond.selects RX9 y_Md_stock y_Md_stock ∈ gw := gw_at 773 (by decide +kernel) (by decide +kernel)
theorem kC_Md_stock : Cond.code y_Md_stock c_Md_stock 5 (some (.boolean)) ∈ gw := gw_at 774 (by decide +kernel) (by decide +kernel)
theorem kK_9_160 : Cond.constantLong RX9 160 30000 ∈ gw := gw_at 775 (by decide +kernel) (by decide +kernel)
theorem kK_9_162 : Cond.constantLong RX9 162 20 ∈ gw := gw_at 776 (by decide +kernel) (by decide +kernel)
theorem kM_L_44 : Cond.methodLink RL 44 y_Md_length ∈ gw := gw_at 777 (by decide +kernel) (by decide +kernel)
theorem kI_Md_length : Cond.instanceMethod y_Md_length ∈ gw := gw_at 778 (by decide +kernel) (by decide +kernel)
theorem kV_Md_length : Cond.selects RX9 y_Md_length y_Md_length ∈ gw := gw_at 779 (by decide +kernel) (by decide +kernel)
theorem kC_Md_length : Cond.code y_Md_length c_Md_length 3 (some (.long)) ∈ gw := gw_at 780 (by decide +kernel) (by decide +kernel)
theorem kK_9_170 : Cond.constantLong RX9 170 (-1) ∈ gw := gw_at 781 (by decide +kernel) (by decide +kernel)
theorem kM_9_172 : Cond.methodLink RX9 172 y_Md_lengthOf ∈ gw := gw_at 782 (by decide +kernel) (by decide +kernel)
theorem kI_Md_lengthOf : Cond.instanceMethod y_Md_lengthOf ∈ gw := gw_at 784 (by decide +kernel) (by decide +kernel)
theorem kC_Md_lengthOf : Cond.code y_Md_lengthOf c_Md_lengthOf 6 (some (.long)) ∈ gw := gw_at 785 (by decide +kernel) (by decide +kernel)
theorem kM_9_164 : Cond.methodLink RX9 164 y_Md_sumOf ∈ gw := gw_at 786 (by decide +kernel) (by decide +kernel)
theorem kI_Md_sumOf : Cond.instanceMethod y_Md_sumOf ∈ gw := gw_at 788 (by decide +kernel) (by decide +kernel)
theorem kC_Md_sumOf : Cond.code y_Md_sumOf c_Md_sumOf 5 (some (.long)) ∈ gw := gw_at 789 (by decide +kernel) (by decide +kernel)
theorem kK_9_168 : Cond.constantLong RX9 168 2 ∈ gw := gw_at 790 (by decide +kernel) (by decide +kernel)
theorem kM_L_54 : Cond.methodLink RL 54 y_Md_run ∈ gw := gw_at 791 (by decide +kernel) (by decide +kernel)
theorem kI_Md_run : Cond.instanceMethod y_Md_run ∈ gw := gw_at 792 (by decide +kernel) (by decide +kernel)
theorem kV_Md_run : Cond.selects RX9 y_Md_run y_Md_run ∈ gw := gw_at 793 (by decide +kernel) (by decide +kernel)
theorem kC_Md_run : Cond.code y_Md_run c_Md_run 5 (some (.int)) ∈ gw := gw_at 794 (by decide +kernel) (by decide +kernel)
theorem kK_9_198 : Cond.constantLong RX9 198 8 ∈ gw := gw_at 795 (by decide +kernel) (by decide +kernel)
theorem kM_9_206 : Cond.methodLink RX9 206 y_Md_findPieces ∈ gw := gw_at 796 (by decide +kernel) (by decide +kernel)
theorem kI_Md_findPieces : Cond.instanceMethod y_Md_findPieces ∈ gw := gw_at 798 (by decide +kernel) (by decide +kernel)
theorem kC_Md_findPieces : Cond.code y_Md_findPieces c_Md_findPieces 5 none ∈ gw := gw_at 799 (by decide +kernel) (by decide +kernel)
theorem kM_9_210 : Cond.methodLink RX9 210 y_Md_cutBest ∈ gw := gw_at 800 (by decide +kernel) (by decide +kernel)
theorem kI_Md_cutBest : Cond.instanceMethod y_Md_cutBest ∈ gw := gw_at 802 (by decide +kernel) (by decide +kernel)
theorem kC_Md_cutBest : Cond.code y_Md_cutBest c_Md_cutBest 16 (some (.boolean)) ∈ gw := gw_at 803 (by decide +kernel) (by decide +kernel)
theorem kM_9_192 : Cond.methodLink RX9 192 y_Md_firstOf ∈ gw := gw_at 804 (by decide +kernel) (by decide +kernel)
theorem kI_Md_firstOf : Cond.instanceMethod y_Md_firstOf ∈ gw := gw_at 806 (by decide +kernel) (by decide +kernel)
theorem kC_Md_firstOf : Cond.code y_Md_firstOf c_Md_firstOf 3 (some (.int)) ∈ gw := gw_at 807 (by decide +kernel) (by decide +kernel)
theorem kM_9_195 : Cond.methodLink RX9 195 y_Md_lengthOfSet ∈ gw := gw_at 808 (by decide +kernel) (by decide +kernel)
theorem kI_Md_lengthOfSet : Cond.instanceMethod y_Md_lengthOfSet ∈ gw := gw_at 810 (by decide +kernel) (by decide +kernel)
theorem kC_Md_lengthOfSet : Cond.code y_Md_lengthOfSet c_Md_lengthOfSet 5 (some (.long)) ∈ gw := gw_at 811 (by decide +kernel) (by decide +kernel)
theorem kM_9_185 : Cond.methodLink RX9 185 y_Md_openBar ∈ gw := gw_at 812 (by decide +kernel) (by decide +kernel)
theorem kI_Md_openBar : Cond.instanceMethod y_Md_openBar ∈ gw := gw_at 814 (by decide +kernel) (by decide +kernel)
theorem kC_Md_openBar : Cond.code y_Md_openBar c_Md_openBar 3 none ∈ gw := gw_at 815 (by decide +kernel) (by decide +kernel)
theorem kM_9_189 : Cond.methodLink RX9 189 y_Md_put ∈ gw := gw_at 816 (by decide +kernel) (by decide +kernel)
theorem kI_Md_put : Cond.instanceMethod y_Md_put ∈ gw := gw_at 818 (by decide +kernel) (by decide +kernel)
theorem kC_Md_put : Cond.code y_Md_put c_Md_put 3 none ∈ gw := gw_at 819 (by decide +kernel) (by decide +kernel)
theorem kM_9_213 : Cond.methodLink RX9 213 y_Md_cutInTurn ∈ gw := gw_at 820 (by decide +kernel) (by decide +kernel)
theorem kI_Md_cutInTurn : Cond.instanceMethod y_Md_cutInTurn ∈ gw := gw_at 822 (by decide +kernel) (by decide +kernel)
theorem kC_Md_cutInTurn : Cond.code y_Md_cutInTurn c_Md_cutInTurn 6 (some (.boolean)) ∈ gw := gw_at 823 (by decide +kernel) (by decide +kernel)
theorem kM_9_181 : Cond.methodLink RX9 181 y_Md_kindFor ∈ gw := gw_at 824 (by decide +kernel) (by decide +kernel)
theorem kI_Md_kindFor : Cond.instanceMethod y_Md_kindFor ∈ gw := gw_at 826 (by decide +kernel) (by decide +kernel)
theorem kC_Md_kindFor : Cond.code y_Md_kindFor c_Md_kindFor 8 (some (.int)) ∈ gw := gw_at 827 (by decide +kernel) (by decide +kernel)
theorem kM_L_59 : Cond.methodLink RL 59 y_Md_loss ∈ gw := gw_at 828 (by decide +kernel) (by decide +kernel)
theorem kI_Md_loss : Cond.instanceMethod y_Md_loss ∈ gw := gw_at 829 (by decide +kernel) (by decide +kernel)
theorem kV_Md_loss : Cond.selects RX9 y_Md_loss y_Md_loss ∈ gw := gw_at 830 (by decide +kernel) (by decide +kernel)
theorem kC_Md_loss : Cond.code y_Md_loss c_Md_loss 5 (some (.long)) ∈ gw := gw_at 831 (by decide +kernel) (by decide +kernel)
theorem kM_9_216 : Cond.methodLink RX9 216 y_Md_piecesTogether ∈ gw := gw_at 832 (by decide +kernel) (by decide +kernel)
theorem kI_Md_piecesTogether : Cond.instanceMethod y_Md_piecesTogether ∈ gw := gw_at 834 (by decide +kernel) (by decide +kernel)
theorem kC_Md_piecesTogether : Cond.code y_Md_piecesTogether c_Md_piecesTogether 4 (some (.long)) ∈ gw := gw_at 835 (by decide +kernel) (by decide +kernel)
theorem kM_L_63 : Cond.methodLink RL 63 y_Md_bound ∈ gw := gw_at 836 (by decide +kernel) (by decide +kernel)
theorem kI_Md_bound : Cond.instanceMethod y_Md_bound ∈ gw := gw_at 837 (by decide +kernel) (by decide +kernel)
theorem kV_Md_bound : Cond.selects RX9 y_Md_bound y_Md_bound ∈ gw := gw_at 838 (by decide +kernel) (by decide +kernel)
theorem kC_Md_bound : Cond.code y_Md_bound c_Md_bound 2 (some (.long)) ∈ gw := gw_at 839 (by decide +kernel) (by decide +kernel)
theorem kM_L_68 : Cond.methodLink RL 68 y_Md_proved ∈ gw := gw_at 840 (by decide +kernel) (by decide +kernel)
theorem kI_Md_proved : Cond.instanceMethod y_Md_proved ∈ gw := gw_at 841 (by decide +kernel) (by decide +kernel)
theorem kV_Md_proved : Cond.selects RX9 y_Md_proved y_Md_proved ∈ gw := gw_at 842 (by decide +kernel) (by decide +kernel)
theorem kC_Md_proved : Cond.code y_Md_proved c_Md_proved 1 (some (.boolean)) ∈ gw := gw_at 843 (by decide +kernel) (by decide +kernel)
theorem kM_L_73 : Cond.methodLink RL 73 y_Md_pattern ∈ gw := gw_at 844 (by decide +kernel) (by decide +kernel)
theorem kI_Md_pattern : Cond.instanceMethod y_Md_pattern ∈ gw := gw_at 845 (by decide +kernel) (by decide +kernel)
theorem kV_Md_pattern : Cond.selects RX9 y_Md_pattern y_Md_pattern ∈ gw := gw_at 846 (by decide +kernel) (by decide +kernel)
theorem kC_Md_pattern : Cond.code y_Md_pattern c_Md_pattern 3 (some (.int)) ∈ gw := gw_at 847 (by decide +kernel) (by decide +kernel)
theorem kM_L_78 : Cond.methodLink RL 78 y_Md_place ∈ gw := gw_at 848 (by decide +kernel) (by decide +kernel)
theorem kI_Md_place : Cond.instanceMethod y_Md_place ∈ gw := gw_at 849 (by decide +kernel) (by decide +kernel)
theorem kV_Md_place : Cond.selects RX9 y_Md_place y_Md_place ∈ gw := gw_at 850 (by decide +kernel) (by decide +kernel)
theorem kC_Md_place : Cond.code y_Md_place c_Md_place 8 (some (.boolean)) ∈ gw := gw_at 851 (by decide +kernel) (by decide +kernel)
theorem kK_9_220 : Cond.constantLong RX9 220 (-100000) ∈ gw := gw_at 852 (by decide +kernel) (by decide +kernel)
theorem kK_9_222 : Cond.constantLong RX9 222 100000 ∈ gw := gw_at 853 (by decide +kernel) (by decide +kernel)
theorem kM_L_82 : Cond.methodLink RL 82 y_Md_command ∈ gw := gw_at 854 (by decide +kernel) (by decide +kernel)
theorem kI_Md_command : Cond.instanceMethod y_Md_command ∈ gw := gw_at 855 (by decide +kernel) (by decide +kernel)
theorem kV_Md_command : Cond.selects RX9 y_Md_command y_Md_command ∈ gw := gw_at 856 (by decide +kernel) (by decide +kernel)
theorem kC_Md_command : Cond.code y_Md_command c_Md_command 3 (some (.int)) ∈ gw := gw_at 857 (by decide +kernel) (by decide +kernel)
theorem kM_9_233 : Cond.methodLink RX9 233 y_Md_isTold ∈ gw := gw_at 858 (by decide +kernel) (by decide +kernel)
theorem kI_Md_isTold : Cond.instanceMethod y_Md_isTold ∈ gw := gw_at 860 (by decide +kernel) (by decide +kernel)
theorem kC_Md_isTold : Cond.code y_Md_isTold c_Md_isTold 4 (some (.boolean)) ∈ gw := gw_at 861 (by decide +kernel) (by decide +kernel)
theorem kM_9_236 : Cond.methodLink RX9 236 y_Md_draw ∈ gw := gw_at 862 (by decide +kernel) (by decide +kernel)
theorem kI_Md_draw : Cond.instanceMethod y_Md_draw ∈ gw := gw_at 864 (by decide +kernel) (by decide +kernel)
theorem kC_Md_draw : Cond.code y_Md_draw c_Md_draw 5 none ∈ gw := gw_at 865 (by decide +kernel) (by decide +kernel)
theorem kK_9_227 : Cond.constantLong RX9 227 3 ∈ gw := gw_at 866 (by decide +kernel) (by decide +kernel)
theorem kM_9_229 : Cond.methodLink RX9 229 y_Md_go ∈ gw := gw_at 867 (by decide +kernel) (by decide +kernel)
theorem kI_Md_go : Cond.instanceMethod y_Md_go ∈ gw := gw_at 869 (by decide +kernel) (by decide +kernel)
theorem kC_Md_go : Cond.code y_Md_go c_Md_go 5 none ∈ gw := gw_at 870 (by decide +kernel) (by decide +kernel)
theorem kM_L_86 : Cond.methodLink RL 86 y_Md_clash ∈ gw := gw_at 871 (by decide +kernel) (by decide +kernel)
theorem kI_Md_clash : Cond.instanceMethod y_Md_clash ∈ gw := gw_at 872 (by decide +kernel) (by decide +kernel)
theorem kV_Md_clash : Cond.selects RX9 y_Md_clash y_Md_clash ∈ gw := gw_at 873 (by decide +kernel) (by decide +kernel)
theorem kC_Md_clash : Cond.code y_Md_clash c_Md_clash 16 (some (.int)) ∈ gw := gw_at 874 (by decide +kernel) (by decide +kernel)
theorem kM_9_239 : Cond.methodLink RX9 239 y_Md_stretches ∈ gw := gw_at 875 (by decide +kernel) (by decide +kernel)
theorem kI_Md_stretches : Cond.instanceMethod y_Md_stretches ∈ gw := gw_at 877 (by decide +kernel) (by decide +kernel)
theorem kC_Md_stretches : Cond.code y_Md_stretches c_Md_stretches 13 (some (.int)) ∈ gw := gw_at 878 (by decide +kernel) (by decide +kernel)
theorem kM_9_243 : Cond.methodLink RX9 243 y_Md_gap ∈ gw := gw_at 879 (by decide +kernel) (by decide +kernel)
theorem kS_Md_gap : Cond.static y_Md_gap ∈ gw := gw_at 880 (by decide +kernel) (by decide +kernel)
theorem kC_Md_gap : Cond.code y_Md_gap c_Md_gap 8 (some (.long)) ∈ gw := gw_at 881 (by decide +kernel) (by decide +kernel)
theorem kM_L_91 : Cond.methodLink RL 91 y_Md_lap ∈ gw := gw_at 882 (by decide +kernel) (by decide +kernel)
theorem kI_Md_lap : Cond.instanceMethod y_Md_lap ∈ gw := gw_at 883 (by decide +kernel) (by decide +kernel)
theorem kV_Md_lap : Cond.selects RX9 y_Md_lap y_Md_lap ∈ gw := gw_at 884 (by decide +kernel) (by decide +kernel)
theorem kC_Md_lap : Cond.code y_Md_lap c_Md_lap 10 (some (.int)) ∈ gw := gw_at 885 (by decide +kernel) (by decide +kernel)
theorem kK_9_247 : Cond.constantLong RX9 247 5000 ∈ gw := gw_at 886 (by decide +kernel) (by decide +kernel)
theorem kM_L_95 : Cond.methodLink RL 95 y_Md_weight ∈ gw := gw_at 887 (by decide +kernel) (by decide +kernel)
theorem kI_Md_weight : Cond.instanceMethod y_Md_weight ∈ gw := gw_at 888 (by decide +kernel) (by decide +kernel)
theorem kV_Md_weight : Cond.selects RX9 y_Md_weight y_Md_weight ∈ gw := gw_at 889 (by decide +kernel) (by decide +kernel)
theorem kC_Md_weight : Cond.code y_Md_weight c_Md_weight 11 (some (.long)) ∈ gw := gw_at 890 (by decide +kernel) (by decide +kernel)
theorem kK_9_249 : Cond.constantLong RX9 249 162 ∈ gw := gw_at 891 (by decide +kernel) (by decide +kernel)
theorem kM_L_99 : Cond.methodLink RL 99 y_Md_tag ∈ gw := gw_at 892 (by decide +kernel) (by decide +kernel)
theorem kI_Md_tag : Cond.instanceMethod y_Md_tag ∈ gw := gw_at 893 (by decide +kernel) (by decide +kernel)
theorem kV_Md_tag : Cond.selects RX9 y_Md_tag y_Md_tag ∈ gw := gw_at 894 (by decide +kernel) (by decide +kernel)
theorem kC_Md_tag : Cond.code y_Md_tag c_Md_tag 5 (some (.int)) ∈ gw := gw_at 895 (by decide +kernel) (by decide +kernel)
theorem kM_9_254 : Cond.methodLink RX9 254 y_Md_sign ∈ gw := gw_at 896 (by decide +kernel) (by decide +kernel)
theorem kI_Md_sign : Cond.instanceMethod y_Md_sign ∈ gw := gw_at 898 (by decide +kernel) (by decide +kernel)
theorem kC_Md_sign : Cond.code y_Md_sign c_Md_sign 2 none ∈ gw := gw_at 899 (by decide +kernel) (by decide +kernel)
theorem kM_L_103 : Cond.methodLink RL 103 y_Md_differs ∈ gw := gw_at 900 (by decide +kernel) (by decide +kernel)
theorem kI_Md_differs : Cond.instanceMethod y_Md_differs ∈ gw := gw_at 901 (by decide +kernel) (by decide +kernel)
theorem kV_Md_differs : Cond.selects RX9 y_Md_differs y_Md_differs ∈ gw := gw_at 902 (by decide +kernel) (by decide +kernel)
theorem kC_Md_differs : Cond.code y_Md_differs c_Md_differs 6 (some (.int)) ∈ gw := gw_at 903 (by decide +kernel) (by decide +kernel)
theorem kM_9_257 : Cond.methodLink RX9 257 y_Md_differ ∈ gw := gw_at 904 (by decide +kernel) (by decide +kernel)
theorem kI_Md_differ : Cond.instanceMethod y_Md_differ ∈ gw := gw_at 906 (by decide +kernel) (by decide +kernel)
theorem kC_Md_differ : Cond.code y_Md_differ c_Md_differ 4 (some (.boolean)) ∈ gw := gw_at 907 (by decide +kernel) (by decide +kernel)
theorem kM_L_108 : Cond.methodLink RL 108 y_Md_order ∈ gw := gw_at 908 (by decide +kernel) (by decide +kernel)
theorem kI_Md_order : Cond.instanceMethod y_Md_order ∈ gw := gw_at 909 (by decide +kernel) (by decide +kernel)
theorem kV_Md_order : Cond.selects RX9 y_Md_order y_Md_order ∈ gw := gw_at 910 (by decide +kernel) (by decide +kernel)
theorem kC_Md_order : Cond.code y_Md_order c_Md_order 5 (some (.int)) ∈ gw := gw_at 911 (by decide +kernel) (by decide +kernel)
theorem kM_9_261 : Cond.methodLink RX9 261 y_Md_isBentBefore ∈ gw := gw_at 912 (by decide +kernel) (by decide +kernel)
theorem kI_Md_isBentBefore : Cond.instanceMethod y_Md_isBentBefore ∈ gw := gw_at 914 (by decide +kernel) (by decide +kernel)
theorem kC_Md_isBentBefore : Cond.code y_Md_isBentBefore c_Md_isBentBefore 3 (some (.boolean)) ∈ gw := gw_at 915 (by decide +kernel) (by decide +kernel)
theorem kK_L_23 : Cond.constantLong RL 23 4294967295 ∈ gw := gw_at 916 (by decide +kernel) (by decide +kernel)
theorem kV_Bc_lineAt : Cond.selects RX8 y_Bc_lineAt y_Bc_lineAt ∈ gw := gw_pr 0 (by decide +kernel) (by decide +kernel)
theorem kV_Bc_cutLength : Cond.selects RX8 y_Bc_cutLength y_Bc_cutLength ∈ gw := gw_pr 1 (by decide +kernel) (by decide +kernel)
theorem kV_Bc_cutDiameter : Cond.selects RX8 y_Bc_cutDiameter y_Bc_cutDiameter ∈ gw := gw_pr 2 (by decide +kernel) (by decide +kernel)
theorem kV_Bc_gatherPieces : Cond.selects RX8 y_Bc_gatherPieces y_Bc_gatherPieces ∈ gw := gw_pr 3 (by decide +kernel) (by decide +kernel)
theorem kV_Ff_leastKindFor : Cond.selects RX0 y_Ff_leastKindFor y_Ff_leastKindFor ∈ gw := gw_pr 4 (by decide +kernel) (by decide +kernel)
theorem kV_Lw_sumSets : Cond.selects RX1 y_Lw_sumSets y_Lw_sumSets ∈ gw := gw_pr 5 (by decide +kernel) (by decide +kernel)
theorem kV_Lw_findFloors : Cond.selects RX1 y_Lw_findFloors y_Lw_findFloors ∈ gw := gw_pr 6 (by decide +kernel) (by decide +kernel)
theorem kV_Lw_costOfCheapestBar : Cond.selects RX1 y_Lw_costOfCheapestBar y_Lw_costOfCheapestBar ∈ gw := gw_pr 7 (by decide +kernel) (by decide +kernel)
theorem kV_Lw_costOfBar : Cond.selects RX1 y_Lw_costOfBar y_Lw_costOfBar ∈ gw := gw_pr 8 (by decide +kernel) (by decide +kernel)
theorem kV_Lw_search : Cond.selects RX1 y_Lw_search y_Lw_search ∈ gw := gw_pr 9 (by decide +kernel) (by decide +kernel)
theorem kV_Lw_keep : Cond.selects RX1 y_Lw_keep y_Lw_keep ∈ gw := gw_pr 10 (by decide +kernel) (by decide +kernel)
theorem kV_Lw_searchRows : Cond.selects RX1 y_Lw_searchRows y_Lw_searchRows ∈ gw := gw_pr 11 (by decide +kernel) (by decide +kernel)
theorem kV_Lw_writeBest : Cond.selects RX1 y_Lw_writeBest y_Lw_writeBest ∈ gw := gw_pr 12 (by decide +kernel) (by decide +kernel)
theorem kV_Tr_go : Cond.selects RX7 y_Tr_go y_Tr_go ∈ gw := gw_pr 13 (by decide +kernel) (by decide +kernel)
theorem kV_Bc_linesBentBefore : Cond.selects RX8 y_Bc_linesBentBefore y_Bc_linesBentBefore ∈ gw := gw_pr 14 (by decide +kernel) (by decide +kernel)
theorem kV_Bc_isBentBefore : Cond.selects RX8 y_Bc_isBentBefore y_Bc_isBentBefore ∈ gw := gw_pr 15 (by decide +kernel) (by decide +kernel)
theorem kV_Md_isLine : Cond.selects RX9 y_Md_isLine y_Md_isLine ∈ gw := gw_pr 16 (by decide +kernel) (by decide +kernel)
theorem kV_Md_lengthOf : Cond.selects RX9 y_Md_lengthOf y_Md_lengthOf ∈ gw := gw_pr 17 (by decide +kernel) (by decide +kernel)
theorem kV_Md_sumOf : Cond.selects RX9 y_Md_sumOf y_Md_sumOf ∈ gw := gw_pr 18 (by decide +kernel) (by decide +kernel)
theorem kV_Md_findPieces : Cond.selects RX9 y_Md_findPieces y_Md_findPieces ∈ gw := gw_pr 19 (by decide +kernel) (by decide +kernel)
theorem kV_Md_cutBest : Cond.selects RX9 y_Md_cutBest y_Md_cutBest ∈ gw := gw_pr 20 (by decide +kernel) (by decide +kernel)
theorem kV_Md_firstOf : Cond.selects RX9 y_Md_firstOf y_Md_firstOf ∈ gw := gw_pr 21 (by decide +kernel) (by decide +kernel)
theorem kV_Md_lengthOfSet : Cond.selects RX9 y_Md_lengthOfSet y_Md_lengthOfSet ∈ gw := gw_pr 22 (by decide +kernel) (by decide +kernel)
theorem kV_Md_openBar : Cond.selects RX9 y_Md_openBar y_Md_openBar ∈ gw := gw_pr 23 (by decide +kernel) (by decide +kernel)
theorem kV_Md_put : Cond.selects RX9 y_Md_put y_Md_put ∈ gw := gw_pr 24 (by decide +kernel) (by decide +kernel)
theorem kV_Md_cutInTurn : Cond.selects RX9 y_Md_cutInTurn y_Md_cutInTurn ∈ gw := gw_pr 25 (by decide +kernel) (by decide +kernel)
theorem kV_Md_kindFor : Cond.selects RX9 y_Md_kindFor y_Md_kindFor ∈ gw := gw_pr 26 (by decide +kernel) (by decide +kernel)
theorem kV_Md_piecesTogether : Cond.selects RX9 y_Md_piecesTogether y_Md_piecesTogether ∈ gw := gw_pr 27 (by decide +kernel) (by decide +kernel)
theorem kV_Md_isTold : Cond.selects RX9 y_Md_isTold y_Md_isTold ∈ gw := gw_pr 28 (by decide +kernel) (by decide +kernel)
theorem kV_Md_draw : Cond.selects RX9 y_Md_draw y_Md_draw ∈ gw := gw_pr 29 (by decide +kernel) (by decide +kernel)
theorem kV_Md_go : Cond.selects RX9 y_Md_go y_Md_go ∈ gw := gw_pr 30 (by decide +kernel) (by decide +kernel)
theorem kV_Md_stretches : Cond.selects RX9 y_Md_stretches y_Md_stretches ∈ gw := gw_pr 31 (by decide +kernel) (by decide +kernel)
theorem kV_Md_sign : Cond.selects RX9 y_Md_sign y_Md_sign ∈ gw := gw_pr 32 (by decide +kernel) (by decide +kernel)
theorem kV_Md_differ : Cond.selects RX9 y_Md_differ y_Md_differ ∈ gw := gw_pr 33 (by decide +kernel) (by decide +kernel)
theorem kV_Md_isBentBefore : Cond.selects RX9 y_Md_isBentBefore y_Md_isBentBefore ∈ gw := gw_pr 34 (by decide +kernel) (by decide +kernel)
theorem kH_8_11 : Cond.methodLinkNest RX8 11 y_Sg_init RX8 ∈ tables_1 := List.mem_of_getElem? (i := 23) (by decide +kernel)
theorem kH_over_4 : Cond.arrayOver (.object RX4) ∈ tables_1 := List.mem_of_getElem? (i := 37) (by decide +kernel)
theorem kH_over_2 : Cond.arrayOver (.object RX2) ∈ tables_1 := List.mem_of_getElem? (i := 39) (by decide +kernel)
theorem kH_over_5 : Cond.arrayOver (.object RX5) ∈ tables_1 := List.mem_of_getElem? (i := 41) (by decide +kernel)
theorem kH_8_40 : Cond.methodLinkNest RX8 40 y_Pl_init RX8 ∈ tables_1 := List.mem_of_getElem? (i := 44) (by decide +kernel)
theorem kH_8_47 : Cond.methodLinkNest RX8 47 y_Lw_init RX8 ∈ tables_1 := List.mem_of_getElem? (i := 102) (by decide +kernel)
theorem kH_8_54 : Cond.methodLinkNest RX8 54 y_Ff_init RX8 ∈ tables_1 := List.mem_of_getElem? (i := 142) (by decide +kernel)
theorem kH_8_61 : Cond.methodLinkNest RX8 61 y_Tr_init RX8 ∈ tables_1 := List.mem_of_getElem? (i := 152) (by decide +kernel)
theorem kH_8_137 : Cond.methodLinkNest RX8 137 y_Sf_init RX8 ∈ tables_1 := List.mem_of_getElem? (i := 359) (by decide +kernel)
end
section
theorem d_Ff_init_0 : decode c_Ff_init 0 = .ok (.aload_n 0, 1) := by decide +kernel
theorem d_Ff_init_1 : decode c_Ff_init 1 = .ok (.invokespecial 3, 3) := by decide +kernel
theorem d_Ff_init_4 : decode c_Ff_init 4 = .ok (.aload_n 0, 1) := by decide +kernel
theorem d_Ff_init_5 : decode c_Ff_init 5 = .ok (.iconst 3, 1) := by decide +kernel
theorem d_Ff_init_6 : decode c_Ff_init 6 = .ok (.newarray .int, 2) := by decide +kernel
theorem d_Ff_init_8 : decode c_Ff_init 8 = .ok (.putfield 9, 3) := by decide +kernel
theorem d_Ff_init_11 : decode c_Ff_init 11 = .ok (.return_, 1) := by decide +kernel
theorem d_Ff_cut_0 : decode c_Ff_cut 0 = .ok (.aload_n 1, 1) := by decide +kernel
theorem d_Ff_cut_1 : decode c_Ff_cut 1 = .ok (.getfield 15, 3) := by decide +kernel
theorem d_Ff_cut_4 : decode c_Ff_cut 4 = .ok (.istore 5, 2) := by decide +kernel
theorem d_Ff_cut_6 : decode c_Ff_cut 6 = .ok (.aload 4, 2) := by decide +kernel
theorem d_Ff_cut_8 : decode c_Ff_cut 8 = .ok (.getfield 21, 3) := by decide +kernel
theorem d_Ff_cut_11 : decode c_Ff_cut 11 = .ok (.iconst 0, 1) := by decide +kernel
theorem d_Ff_cut_12 : decode c_Ff_cut 12 = .ok (.aload_n 0, 1) := by decide +kernel
theorem d_Ff_cut_13 : decode c_Ff_cut 13 = .ok (.getfield 9, 3) := by decide +kernel
theorem d_Ff_cut_16 : decode c_Ff_cut 16 = .ok (.iconst 0, 1) := by decide +kernel
theorem d_Ff_cut_17 : decode c_Ff_cut 17 = .ok (.iconst 3, 1) := by decide +kernel
theorem d_Ff_cut_18 : decode c_Ff_cut 18 = .ok (.invokestatic 25, 3) := by decide +kernel
theorem d_Ff_cut_21 : decode c_Ff_cut 21 = .ok (.iload_n 2, 1) := by decide +kernel
theorem d_Ff_cut_22 : decode c_Ff_cut 22 = .ok (.istore 6, 2) := by decide +kernel
theorem d_Ff_cut_24 : decode c_Ff_cut 24 = .ok (.iload 6, 2) := by decide +kernel
theorem d_Ff_cut_26 : decode c_Ff_cut 26 = .ok (.aload_n 1, 1) := by decide +kernel
theorem d_Ff_cut_27 : decode c_Ff_cut 27 = .ok (.getfield 31, 3) := by decide +kernel
theorem d_Ff_cut_30 : decode c_Ff_cut 30 = .ok (.if_icmp .ge 97, 3) := by decide +kernel
theorem d_Ff_cut_33 : decode c_Ff_cut 33 = .ok (.aload_n 1, 1) := by decide +kernel
theorem d_Ff_cut_34 : decode c_Ff_cut 34 = .ok (.getfield 34, 3) := by decide +kernel
theorem d_Ff_cut_37 : decode c_Ff_cut 37 = .ok (.iload 6, 2) := by decide +kernel
theorem d_Ff_cut_39 : decode c_Ff_cut 39 = .ok (.iaload, 1) := by decide +kernel
theorem d_Ff_cut_40 : decode c_Ff_cut 40 = .ok (.istore 7, 2) := by decide +kernel
theorem d_Ff_cut_42 : decode c_Ff_cut 42 = .ok (.aload_n 1, 1) := by decide +kernel
theorem d_Ff_cut_43 : decode c_Ff_cut 43 = .ok (.iload 5, 2) := by decide +kernel
theorem d_Ff_cut_45 : decode c_Ff_cut 45 = .ok (.iload 7, 2) := by decide +kernel
theorem d_Ff_cut_47 : decode c_Ff_cut 47 = .ok (.invokestatic 37, 3) := by decide +kernel
theorem d_Ff_cut_50 : decode c_Ff_cut 50 = .ok (.istore 8, 2) := by decide +kernel
theorem d_Ff_cut_52 : decode c_Ff_cut 52 = .ok (.iload 8, 2) := by decide +kernel
theorem d_Ff_cut_54 : decode c_Ff_cut 54 = .ok (.bipush (-2), 2) := by decide +kernel
theorem d_Ff_cut_56 : decode c_Ff_cut 56 = .ok (.if_icmp .ne 48, 3) := by decide +kernel
theorem d_Ff_cut_59 : decode c_Ff_cut 59 = .ok (.aload_n 0, 1) := by decide +kernel
theorem d_Ff_cut_60 : decode c_Ff_cut 60 = .ok (.aload 4, 2) := by decide +kernel
theorem d_Ff_cut_62 : decode c_Ff_cut 62 = .ok (.iload 7, 2) := by decide +kernel
theorem d_Ff_cut_64 : decode c_Ff_cut 64 = .ok (.invokevirtual 41, 3) := by decide +kernel
theorem d_Ff_cut_67 : decode c_Ff_cut 67 = .ok (.istore 9, 2) := by decide +kernel
theorem d_Ff_cut_69 : decode c_Ff_cut 69 = .ok (.iload 9, 2) := by decide +kernel
theorem d_Ff_cut_71 : decode c_Ff_cut 71 = .ok (.bipush (-2), 2) := by decide +kernel
theorem d_Ff_cut_73 : decode c_Ff_cut 73 = .ok (.if_icmp .ne 5, 3) := by decide +kernel
theorem d_Ff_cut_76 : decode c_Ff_cut 76 = .ok (.iconst 0, 1) := by decide +kernel
theorem d_Ff_cut_77 : decode c_Ff_cut 77 = .ok (.ireturn, 1) := by decide +kernel
theorem d_Ff_cut_78 : decode c_Ff_cut 78 = .ok (.aload_n 0, 1) := by decide +kernel
theorem d_Ff_cut_79 : decode c_Ff_cut 79 = .ok (.getfield 9, 3) := by decide +kernel
theorem d_Ff_cut_82 : decode c_Ff_cut 82 = .ok (.iload 9, 2) := by decide +kernel
theorem d_Ff_cut_84 : decode c_Ff_cut 84 = .ok (.dup2, 1) := by decide +kernel
theorem d_Ff_cut_85 : decode c_Ff_cut 85 = .ok (.iaload, 1) := by decide +kernel
theorem d_Ff_cut_86 : decode c_Ff_cut 86 = .ok (.iconst 1, 1) := by decide +kernel
theorem d_Ff_cut_87 : decode c_Ff_cut 87 = .ok (.isub, 1) := by decide +kernel
theorem d_Ff_cut_88 : decode c_Ff_cut 88 = .ok (.iastore, 1) := by decide +kernel
theorem d_Ff_cut_89 : decode c_Ff_cut 89 = .ok (.aload_n 1, 1) := by decide +kernel
theorem d_Ff_cut_90 : decode c_Ff_cut 90 = .ok (.iload_n 3, 1) := by decide +kernel
theorem d_Ff_cut_91 : decode c_Ff_cut 91 = .ok (.aload 4, 2) := by decide +kernel
theorem d_Ff_cut_93 : decode c_Ff_cut 93 = .ok (.getfield 45, 3) := by decide +kernel
theorem d_Ff_cut_96 : decode c_Ff_cut 96 = .ok (.iload 9, 2) := by decide +kernel
theorem d_Ff_cut_98 : decode c_Ff_cut 98 = .ok (.iaload, 1) := by decide +kernel
theorem d_Ff_cut_99 : decode c_Ff_cut 99 = .ok (.invokevirtual 48, 3) := by decide +kernel
theorem d_Ff_cut_102 : decode c_Ff_cut 102 = .ok (.istore 8, 2) := by decide +kernel
theorem d_Ff_cut_104 : decode c_Ff_cut 104 = .ok (.iload 8, 2) := by decide +kernel
theorem d_Ff_cut_106 : decode c_Ff_cut 106 = .ok (.bipush (-2), 2) := by decide +kernel
theorem d_Ff_cut_108 : decode c_Ff_cut 108 = .ok (.if_icmp .ne 5, 3) := by decide +kernel
theorem d_Ff_cut_111 : decode c_Ff_cut 111 = .ok (.iconst 0, 1) := by decide +kernel
theorem d_Ff_cut_112 : decode c_Ff_cut 112 = .ok (.ireturn, 1) := by decide +kernel
theorem d_Ff_cut_113 : decode c_Ff_cut 113 = .ok (.aload_n 1, 1) := by decide +kernel
theorem d_Ff_cut_114 : decode c_Ff_cut 114 = .ok (.iload 6, 2) := by decide +kernel
theorem d_Ff_cut_116 : decode c_Ff_cut 116 = .ok (.iload 8, 2) := by decide +kernel
theorem d_Ff_cut_118 : decode c_Ff_cut 118 = .ok (.invokevirtual 52, 3) := by decide +kernel
theorem d_Ff_cut_121 : decode c_Ff_cut 121 = .ok (.iinc 6 1, 3) := by decide +kernel
theorem d_Ff_cut_124 : decode c_Ff_cut 124 = .ok (.goto (-100), 3) := by decide +kernel
theorem d_Ff_cut_127 : decode c_Ff_cut 127 = .ok (.iconst 1, 1) := by decide +kernel
theorem d_Ff_cut_128 : decode c_Ff_cut 128 = .ok (.ireturn, 1) := by decide +kernel
theorem d_Ff_firstWithRoom_0 : decode c_Ff_firstWithRoom 0 = .ok (.iload_n 1, 1) := by decide +kernel
theorem d_Ff_firstWithRoom_1 : decode c_Ff_firstWithRoom 1 = .ok (.istore_n 3, 1) := by decide +kernel
theorem d_Ff_firstWithRoom_2 : decode c_Ff_firstWithRoom 2 = .ok (.iload_n 3, 1) := by decide +kernel
theorem d_Ff_firstWithRoom_3 : decode c_Ff_firstWithRoom 3 = .ok (.aload_n 0, 1) := by decide +kernel
theorem d_Ff_firstWithRoom_4 : decode c_Ff_firstWithRoom 4 = .ok (.getfield 15, 3) := by decide +kernel
theorem d_Ff_firstWithRoom_7 : decode c_Ff_firstWithRoom 7 = .ok (.if_icmp .ge 21, 3) := by decide +kernel
theorem d_Ff_firstWithRoom_10 : decode c_Ff_firstWithRoom 10 = .ok (.aload_n 0, 1) := by decide +kernel
theorem d_Ff_firstWithRoom_11 : decode c_Ff_firstWithRoom 11 = .ok (.getfield 56, 3) := by decide +kernel
theorem d_Ff_firstWithRoom_14 : decode c_Ff_firstWithRoom 14 = .ok (.iload_n 3, 1) := by decide +kernel
theorem d_Ff_firstWithRoom_15 : decode c_Ff_firstWithRoom 15 = .ok (.iaload, 1) := by decide +kernel
theorem d_Ff_firstWithRoom_16 : decode c_Ff_firstWithRoom 16 = .ok (.iload_n 2, 1) := by decide +kernel
theorem d_Ff_firstWithRoom_17 : decode c_Ff_firstWithRoom 17 = .ok (.if_icmp .lt 5, 3) := by decide +kernel
theorem d_Ff_firstWithRoom_20 : decode c_Ff_firstWithRoom 20 = .ok (.iload_n 3, 1) := by decide +kernel
theorem d_Ff_firstWithRoom_21 : decode c_Ff_firstWithRoom 21 = .ok (.ireturn, 1) := by decide +kernel
theorem d_Ff_firstWithRoom_22 : decode c_Ff_firstWithRoom 22 = .ok (.iinc 3 1, 3) := by decide +kernel
theorem d_Ff_firstWithRoom_25 : decode c_Ff_firstWithRoom 25 = .ok (.goto (-23), 3) := by decide +kernel
theorem d_Ff_firstWithRoom_28 : decode c_Ff_firstWithRoom 28 = .ok (.bipush (-2), 2) := by decide +kernel
theorem d_Ff_firstWithRoom_30 : decode c_Ff_firstWithRoom 30 = .ok (.ireturn, 1) := by decide +kernel
theorem d_Ff_leastKindFor_0 : decode c_Ff_leastKindFor 0 = .ok (.bipush (-2), 2) := by decide +kernel
theorem d_Ff_leastKindFor_2 : decode c_Ff_leastKindFor 2 = .ok (.istore_n 3, 1) := by decide +kernel
theorem d_Ff_leastKindFor_3 : decode c_Ff_leastKindFor 3 = .ok (.iconst 0, 1) := by decide +kernel
theorem d_Ff_leastKindFor_4 : decode c_Ff_leastKindFor 4 = .ok (.istore 4, 2) := by decide +kernel
theorem d_Ff_leastKindFor_6 : decode c_Ff_leastKindFor 6 = .ok (.iload 4, 2) := by decide +kernel
theorem d_Ff_leastKindFor_8 : decode c_Ff_leastKindFor 8 = .ok (.aload_n 1, 1) := by decide +kernel
theorem d_Ff_leastKindFor_9 : decode c_Ff_leastKindFor 9 = .ok (.getfield 59, 3) := by decide +kernel
theorem d_Ff_leastKindFor_12 : decode c_Ff_leastKindFor 12 = .ok (.if_icmp .ge 67, 3) := by decide +kernel
theorem d_Ff_leastKindFor_15 : decode c_Ff_leastKindFor 15 = .ok (.aload_n 0, 1) := by decide +kernel
theorem d_Ff_leastKindFor_16 : decode c_Ff_leastKindFor 16 = .ok (.getfield 9, 3) := by decide +kernel
theorem d_Ff_leastKindFor_19 : decode c_Ff_leastKindFor 19 = .ok (.iload 4, 2) := by decide +kernel
theorem d_Ff_leastKindFor_21 : decode c_Ff_leastKindFor 21 = .ok (.iaload, 1) := by decide +kernel
theorem d_Ff_leastKindFor_22 : decode c_Ff_leastKindFor 22 = .ok (.ifCond .le 18, 3) := by decide +kernel
theorem d_Ff_leastKindFor_25 : decode c_Ff_leastKindFor 25 = .ok (.aload_n 1, 1) := by decide +kernel
theorem d_Ff_leastKindFor_26 : decode c_Ff_leastKindFor 26 = .ok (.getfield 45, 3) := by decide +kernel
theorem d_Ff_leastKindFor_29 : decode c_Ff_leastKindFor 29 = .ok (.iload 4, 2) := by decide +kernel
theorem d_Ff_leastKindFor_31 : decode c_Ff_leastKindFor 31 = .ok (.iaload, 1) := by decide +kernel
theorem d_Ff_leastKindFor_32 : decode c_Ff_leastKindFor 32 = .ok (.iload_n 2, 1) := by decide +kernel
theorem d_Ff_leastKindFor_33 : decode c_Ff_leastKindFor 33 = .ok (.if_icmp .lt 7, 3) := by decide +kernel
theorem d_Ff_leastKindFor_36 : decode c_Ff_leastKindFor 36 = .ok (.iconst 1, 1) := by decide +kernel
theorem d_Ff_leastKindFor_37 : decode c_Ff_leastKindFor 37 = .ok (.goto 4, 3) := by decide +kernel
theorem d_Ff_leastKindFor_40 : decode c_Ff_leastKindFor 40 = .ok (.iconst 0, 1) := by decide +kernel
theorem d_Ff_leastKindFor_41 : decode c_Ff_leastKindFor 41 = .ok (.istore 5, 2) := by decide +kernel
theorem d_Ff_leastKindFor_43 : decode c_Ff_leastKindFor 43 = .ok (.iload 5, 2) := by decide +kernel
theorem d_Ff_leastKindFor_45 : decode c_Ff_leastKindFor 45 = .ok (.ifCond .eq 28, 3) := by decide +kernel
theorem d_Ff_leastKindFor_48 : decode c_Ff_leastKindFor 48 = .ok (.iload_n 3, 1) := by decide +kernel
theorem d_Ff_leastKindFor_49 : decode c_Ff_leastKindFor 49 = .ok (.bipush (-2), 2) := by decide +kernel
theorem d_Ff_leastKindFor_51 : decode c_Ff_leastKindFor 51 = .ok (.if_icmp .eq 19, 3) := by decide +kernel
theorem d_Ff_leastKindFor_54 : decode c_Ff_leastKindFor 54 = .ok (.aload_n 1, 1) := by decide +kernel
theorem d_Ff_leastKindFor_55 : decode c_Ff_leastKindFor 55 = .ok (.getfield 45, 3) := by decide +kernel
theorem d_Ff_leastKindFor_58 : decode c_Ff_leastKindFor 58 = .ok (.iload 4, 2) := by decide +kernel
theorem d_Ff_leastKindFor_60 : decode c_Ff_leastKindFor 60 = .ok (.iaload, 1) := by decide +kernel
theorem d_Ff_leastKindFor_61 : decode c_Ff_leastKindFor 61 = .ok (.aload_n 1, 1) := by decide +kernel
theorem d_Ff_leastKindFor_62 : decode c_Ff_leastKindFor 62 = .ok (.getfield 45, 3) := by decide +kernel
theorem d_Ff_leastKindFor_65 : decode c_Ff_leastKindFor 65 = .ok (.iload_n 3, 1) := by decide +kernel
theorem d_Ff_leastKindFor_66 : decode c_Ff_leastKindFor 66 = .ok (.iaload, 1) := by decide +kernel
theorem d_Ff_leastKindFor_67 : decode c_Ff_leastKindFor 67 = .ok (.if_icmp .ge 6, 3) := by decide +kernel
theorem d_Ff_leastKindFor_70 : decode c_Ff_leastKindFor 70 = .ok (.iload 4, 2) := by decide +kernel
theorem d_Ff_leastKindFor_72 : decode c_Ff_leastKindFor 72 = .ok (.istore_n 3, 1) := by decide +kernel
theorem d_Ff_leastKindFor_73 : decode c_Ff_leastKindFor 73 = .ok (.iinc 4 1, 3) := by decide +kernel
theorem d_Ff_leastKindFor_76 : decode c_Ff_leastKindFor 76 = .ok (.goto (-70), 3) := by decide +kernel
theorem d_Ff_leastKindFor_79 : decode c_Ff_leastKindFor 79 = .ok (.iload_n 3, 1) := by decide +kernel
theorem d_Ff_leastKindFor_80 : decode c_Ff_leastKindFor 80 = .ok (.ireturn, 1) := by decide +kernel
theorem d_Lw_init_0 : decode c_Lw_init 0 = .ok (.aload_n 0, 1) := by decide +kernel
theorem d_Lw_init_1 : decode c_Lw_init 1 = .ok (.invokespecial 3, 3) := by decide +kernel
theorem d_Lw_init_4 : decode c_Lw_init 4 = .ok (.aload_n 0, 1) := by decide +kernel
theorem d_Lw_init_5 : decode c_Lw_init 5 = .ok (.sipush 256, 3) := by decide +kernel
theorem d_Lw_init_8 : decode c_Lw_init 8 = .ok (.newarray .int, 2) := by decide +kernel
theorem d_Lw_init_10 : decode c_Lw_init 10 = .ok (.putfield 11, 3) := by decide +kernel
theorem d_Lw_init_13 : decode c_Lw_init 13 = .ok (.aload_n 0, 1) := by decide +kernel
theorem d_Lw_init_14 : decode c_Lw_init 14 = .ok (.sipush 256, 3) := by decide +kernel
theorem d_Lw_init_17 : decode c_Lw_init 17 = .ok (.newarray .int, 2) := by decide +kernel
theorem d_Lw_init_19 : decode c_Lw_init 19 = .ok (.putfield 15, 3) := by decide +kernel
theorem d_Lw_init_22 : decode c_Lw_init 22 = .ok (.aload_n 0, 1) := by decide +kernel
theorem d_Lw_init_23 : decode c_Lw_init 23 = .ok (.iconst 3, 1) := by decide +kernel
theorem d_Lw_init_24 : decode c_Lw_init 24 = .ok (.newarray .int, 2) := by decide +kernel
theorem d_Lw_init_26 : decode c_Lw_init 26 = .ok (.putfield 18, 3) := by decide +kernel
theorem d_Lw_init_29 : decode c_Lw_init 29 = .ok (.aload_n 0, 1) := by decide +kernel
theorem d_Lw_init_30 : decode c_Lw_init 30 = .ok (.iconst 3, 1) := by decide +kernel
theorem d_Lw_init_31 : decode c_Lw_init 31 = .ok (.newarray .int, 2) := by decide +kernel
theorem d_Lw_init_33 : decode c_Lw_init 33 = .ok (.putfield 21, 3) := by decide +kernel
theorem d_Lw_init_36 : decode c_Lw_init 36 = .ok (.aload_n 0, 1) := by decide +kernel
theorem d_Lw_init_37 : decode c_Lw_init 37 = .ok (.bipush 8, 2) := by decide +kernel
theorem d_Lw_init_39 : decode c_Lw_init 39 = .ok (.newarray .int, 2) := by decide +kernel
theorem d_Lw_init_41 : decode c_Lw_init 41 = .ok (.putfield 24, 3) := by decide +kernel
theorem d_Lw_init_44 : decode c_Lw_init 44 = .ok (.aload_n 0, 1) := by decide +kernel
theorem d_Lw_init_45 : decode c_Lw_init 45 = .ok (.bipush 8, 2) := by decide +kernel
theorem d_Lw_init_47 : decode c_Lw_init 47 = .ok (.newarray .int, 2) := by decide +kernel
theorem d_Lw_init_49 : decode c_Lw_init 49 = .ok (.putfield 27, 3) := by decide +kernel
theorem d_Lw_init_52 : decode c_Lw_init 52 = .ok (.aload_n 0, 1) := by decide +kernel
theorem d_Lw_init_53 : decode c_Lw_init 53 = .ok (.bipush 8, 2) := by decide +kernel
theorem d_Lw_init_55 : decode c_Lw_init 55 = .ok (.newarray .int, 2) := by decide +kernel
theorem d_Lw_init_57 : decode c_Lw_init 57 = .ok (.putfield 30, 3) := by decide +kernel
theorem d_Lw_init_60 : decode c_Lw_init 60 = .ok (.aload_n 0, 1) := by decide +kernel
theorem d_Lw_init_61 : decode c_Lw_init 61 = .ok (.bipush 8, 2) := by decide +kernel
theorem d_Lw_init_63 : decode c_Lw_init 63 = .ok (.newarray .int, 2) := by decide +kernel
theorem d_Lw_init_65 : decode c_Lw_init 65 = .ok (.putfield 33, 3) := by decide +kernel
theorem d_Lw_init_68 : decode c_Lw_init 68 = .ok (.return_, 1) := by decide +kernel
theorem d_Lw_cut_0 : decode c_Lw_cut 0 = .ok (.aload_n 1, 1) := by decide +kernel
theorem d_Lw_cut_1 : decode c_Lw_cut 1 = .ok (.getfield 36, 3) := by decide +kernel
theorem d_Lw_cut_4 : decode c_Lw_cut 4 = .ok (.iload_n 2, 1) := by decide +kernel
theorem d_Lw_cut_5 : decode c_Lw_cut 5 = .ok (.isub, 1) := by decide +kernel
theorem d_Lw_cut_6 : decode c_Lw_cut 6 = .ok (.istore 5, 2) := by decide +kernel
theorem d_Lw_cut_8 : decode c_Lw_cut 8 = .ok (.iload 5, 2) := by decide +kernel
theorem d_Lw_cut_10 : decode c_Lw_cut 10 = .ok (.iconst 1, 1) := by decide +kernel
theorem d_Lw_cut_11 : decode c_Lw_cut 11 = .ok (.if_icmp .lt 10, 3) := by decide +kernel
theorem d_Lw_cut_14 : decode c_Lw_cut 14 = .ok (.iload 5, 2) := by decide +kernel
theorem d_Lw_cut_16 : decode c_Lw_cut 16 = .ok (.bipush 8, 2) := by decide +kernel
theorem d_Lw_cut_18 : decode c_Lw_cut 18 = .ok (.if_icmp .le 5, 3) := by decide +kernel
theorem d_Lw_cut_21 : decode c_Lw_cut 21 = .ok (.iconst 0, 1) := by decide +kernel
theorem d_Lw_cut_22 : decode c_Lw_cut 22 = .ok (.ireturn, 1) := by decide +kernel
theorem d_Lw_cut_23 : decode c_Lw_cut 23 = .ok (.aload_n 0, 1) := by decide +kernel
theorem d_Lw_cut_24 : decode c_Lw_cut 24 = .ok (.aload 4, 2) := by decide +kernel
theorem d_Lw_cut_26 : decode c_Lw_cut 26 = .ok (.getfield 42, 3) := by decide +kernel
theorem d_Lw_cut_29 : decode c_Lw_cut 29 = .ok (.putfield 47, 3) := by decide +kernel
theorem d_Lw_cut_32 : decode c_Lw_cut 32 = .ok (.aload 4, 2) := by decide +kernel
theorem d_Lw_cut_34 : decode c_Lw_cut 34 = .ok (.getfield 48, 3) := by decide +kernel
theorem d_Lw_cut_37 : decode c_Lw_cut 37 = .ok (.iconst 0, 1) := by decide +kernel
theorem d_Lw_cut_38 : decode c_Lw_cut 38 = .ok (.aload_n 0, 1) := by decide +kernel
theorem d_Lw_cut_39 : decode c_Lw_cut 39 = .ok (.getfield 18, 3) := by decide +kernel
theorem d_Lw_cut_42 : decode c_Lw_cut 42 = .ok (.iconst 0, 1) := by decide +kernel
theorem d_Lw_cut_43 : decode c_Lw_cut 43 = .ok (.iconst 3, 1) := by decide +kernel
theorem d_Lw_cut_44 : decode c_Lw_cut 44 = .ok (.invokestatic 49, 3) := by decide +kernel
theorem d_Lw_cut_47 : decode c_Lw_cut 47 = .ok (.aload 4, 2) := by decide +kernel
theorem d_Lw_cut_49 : decode c_Lw_cut 49 = .ok (.getfield 55, 3) := by decide +kernel
theorem d_Lw_cut_52 : decode c_Lw_cut 52 = .ok (.iconst 0, 1) := by decide +kernel
theorem d_Lw_cut_53 : decode c_Lw_cut 53 = .ok (.aload_n 0, 1) := by decide +kernel
theorem d_Lw_cut_54 : decode c_Lw_cut 54 = .ok (.getfield 21, 3) := by decide +kernel
theorem d_Lw_cut_57 : decode c_Lw_cut 57 = .ok (.iconst 0, 1) := by decide +kernel
theorem d_Lw_cut_58 : decode c_Lw_cut 58 = .ok (.iconst 3, 1) := by decide +kernel
theorem d_Lw_cut_59 : decode c_Lw_cut 59 = .ok (.invokestatic 49, 3) := by decide +kernel
theorem d_Lw_cut_62 : decode c_Lw_cut 62 = .ok (.aload_n 0, 1) := by decide +kernel
theorem d_Lw_cut_63 : decode c_Lw_cut 63 = .ok (.aload_n 1, 1) := by decide +kernel
theorem d_Lw_cut_64 : decode c_Lw_cut 64 = .ok (.iload_n 2, 1) := by decide +kernel
theorem d_Lw_cut_65 : decode c_Lw_cut 65 = .ok (.iload 5, 2) := by decide +kernel
theorem d_Lw_cut_67 : decode c_Lw_cut 67 = .ok (.invokevirtual 58, 3) := by decide +kernel
theorem d_Lw_cut_70 : decode c_Lw_cut 70 = .ok (.aload_n 0, 1) := by decide +kernel
theorem d_Lw_cut_71 : decode c_Lw_cut 71 = .ok (.iload 5, 2) := by decide +kernel
theorem d_Lw_cut_73 : decode c_Lw_cut 73 = .ok (.invokevirtual 62, 3) := by decide +kernel
theorem d_Lw_cut_76 : decode c_Lw_cut 76 = .ok (.aload_n 0, 1) := by decide +kernel
theorem d_Lw_cut_77 : decode c_Lw_cut 77 = .ok (.ldc 66, 2) := by decide +kernel
theorem d_Lw_cut_79 : decode c_Lw_cut 79 = .ok (.putfield 67, 3) := by decide +kernel
theorem d_Lw_cut_82 : decode c_Lw_cut 82 = .ok (.aload_n 0, 1) := by decide +kernel
theorem d_Lw_cut_83 : decode c_Lw_cut 83 = .ok (.iconst 0, 1) := by decide +kernel
theorem d_Lw_cut_84 : decode c_Lw_cut 84 = .ok (.putfield 70, 3) := by decide +kernel
theorem d_Lw_cut_87 : decode c_Lw_cut 87 = .ok (.aload_n 0, 1) := by decide +kernel
theorem d_Lw_cut_88 : decode c_Lw_cut 88 = .ok (.iconst 0, 1) := by decide +kernel
theorem d_Lw_cut_89 : decode c_Lw_cut 89 = .ok (.iconst 1, 1) := by decide +kernel
theorem d_Lw_cut_90 : decode c_Lw_cut 90 = .ok (.iload 5, 2) := by decide +kernel
theorem d_Lw_cut_92 : decode c_Lw_cut 92 = .ok (.ishl, 1) := by decide +kernel
theorem d_Lw_cut_93 : decode c_Lw_cut 93 = .ok (.iconst 1, 1) := by decide +kernel
theorem d_Lw_cut_94 : decode c_Lw_cut 94 = .ok (.isub, 1) := by decide +kernel
theorem d_Lw_cut_95 : decode c_Lw_cut 95 = .ok (.iconst 0, 1) := by decide +kernel
theorem d_Lw_cut_96 : decode c_Lw_cut 96 = .ok (.invokevirtual 73, 3) := by decide +kernel
theorem d_Lw_cut_99 : decode c_Lw_cut 99 = .ok (.aload_n 0, 1) := by decide +kernel
theorem d_Lw_cut_100 : decode c_Lw_cut 100 = .ok (.getfield 67, 3) := by decide +kernel
theorem d_Lw_cut_103 : decode c_Lw_cut 103 = .ok (.ldc 66, 2) := by decide +kernel
theorem d_Lw_cut_105 : decode c_Lw_cut 105 = .ok (.if_icmp .ne 5, 3) := by decide +kernel
theorem d_Lw_cut_108 : decode c_Lw_cut 108 = .ok (.iconst 0, 1) := by decide +kernel
theorem d_Lw_cut_109 : decode c_Lw_cut 109 = .ok (.ireturn, 1) := by decide +kernel
theorem d_Lw_cut_110 : decode c_Lw_cut 110 = .ok (.aload_n 0, 1) := by decide +kernel
theorem d_Lw_cut_111 : decode c_Lw_cut 111 = .ok (.aload_n 1, 1) := by decide +kernel
theorem d_Lw_cut_112 : decode c_Lw_cut 112 = .ok (.iload_n 2, 1) := by decide +kernel
theorem d_Lw_cut_113 : decode c_Lw_cut 113 = .ok (.iload_n 3, 1) := by decide +kernel
theorem d_Lw_cut_114 : decode c_Lw_cut 114 = .ok (.invokevirtual 77, 3) := by decide +kernel
theorem d_Lw_cut_117 : decode c_Lw_cut 117 = .ok (.ireturn, 1) := by decide +kernel
theorem d_Lw_sumSets_0 : decode c_Lw_sumSets 0 = .ok (.aload_n 0, 1) := by decide +kernel
theorem d_Lw_sumSets_1 : decode c_Lw_sumSets 1 = .ok (.getfield 11, 3) := by decide +kernel
theorem d_Lw_sumSets_4 : decode c_Lw_sumSets 4 = .ok (.iconst 0, 1) := by decide +kernel
theorem d_Lw_sumSets_5 : decode c_Lw_sumSets 5 = .ok (.iconst 0, 1) := by decide +kernel
theorem d_Lw_sumSets_6 : decode c_Lw_sumSets 6 = .ok (.iastore, 1) := by decide +kernel
theorem d_Lw_sumSets_7 : decode c_Lw_sumSets 7 = .ok (.iconst 0, 1) := by decide +kernel
theorem d_Lw_sumSets_8 : decode c_Lw_sumSets 8 = .ok (.istore 4, 2) := by decide +kernel
theorem d_Lw_sumSets_10 : decode c_Lw_sumSets 10 = .ok (.iload 4, 2) := by decide +kernel
theorem d_Lw_sumSets_12 : decode c_Lw_sumSets 12 = .ok (.iload_n 3, 1) := by decide +kernel
theorem d_Lw_sumSets_13 : decode c_Lw_sumSets 13 = .ok (.if_icmp .ge 69, 3) := by decide +kernel
theorem d_Lw_sumSets_16 : decode c_Lw_sumSets 16 = .ok (.iconst 1, 1) := by decide +kernel
theorem d_Lw_sumSets_17 : decode c_Lw_sumSets 17 = .ok (.iload 4, 2) := by decide +kernel
theorem d_Lw_sumSets_19 : decode c_Lw_sumSets 19 = .ok (.ishl, 1) := by decide +kernel
theorem d_Lw_sumSets_20 : decode c_Lw_sumSets 20 = .ok (.istore 5, 2) := by decide +kernel
theorem d_Lw_sumSets_22 : decode c_Lw_sumSets 22 = .ok (.aload_n 1, 1) := by decide +kernel
theorem d_Lw_sumSets_23 : decode c_Lw_sumSets 23 = .ok (.getfield 81, 3) := by decide +kernel
theorem d_Lw_sumSets_26 : decode c_Lw_sumSets 26 = .ok (.iload_n 2, 1) := by decide +kernel
theorem d_Lw_sumSets_27 : decode c_Lw_sumSets 27 = .ok (.iload_n 3, 1) := by decide +kernel
theorem d_Lw_sumSets_28 : decode c_Lw_sumSets 28 = .ok (.iadd, 1) := by decide +kernel
theorem d_Lw_sumSets_29 : decode c_Lw_sumSets 29 = .ok (.iconst 1, 1) := by decide +kernel
theorem d_Lw_sumSets_30 : decode c_Lw_sumSets 30 = .ok (.isub, 1) := by decide +kernel
theorem d_Lw_sumSets_31 : decode c_Lw_sumSets 31 = .ok (.iload 4, 2) := by decide +kernel
theorem d_Lw_sumSets_33 : decode c_Lw_sumSets 33 = .ok (.isub, 1) := by decide +kernel
theorem d_Lw_sumSets_34 : decode c_Lw_sumSets 34 = .ok (.iaload, 1) := by decide +kernel
theorem d_Lw_sumSets_35 : decode c_Lw_sumSets 35 = .ok (.istore 6, 2) := by decide +kernel
theorem d_Lw_sumSets_37 : decode c_Lw_sumSets 37 = .ok (.iload 5, 2) := by decide +kernel
theorem d_Lw_sumSets_39 : decode c_Lw_sumSets 39 = .ok (.istore 7, 2) := by decide +kernel
theorem d_Lw_sumSets_41 : decode c_Lw_sumSets 41 = .ok (.iload 7, 2) := by decide +kernel
theorem d_Lw_sumSets_43 : decode c_Lw_sumSets 43 = .ok (.iconst 2, 1) := by decide +kernel
theorem d_Lw_sumSets_44 : decode c_Lw_sumSets 44 = .ok (.iload 5, 2) := by decide +kernel
theorem d_Lw_sumSets_46 : decode c_Lw_sumSets 46 = .ok (.imul, 1) := by decide +kernel
theorem d_Lw_sumSets_47 : decode c_Lw_sumSets 47 = .ok (.if_icmp .ge 29, 3) := by decide +kernel
theorem d_Lw_sumSets_50 : decode c_Lw_sumSets 50 = .ok (.aload_n 0, 1) := by decide +kernel
theorem d_Lw_sumSets_51 : decode c_Lw_sumSets 51 = .ok (.getfield 11, 3) := by decide +kernel
theorem d_Lw_sumSets_54 : decode c_Lw_sumSets 54 = .ok (.iload 7, 2) := by decide +kernel
theorem d_Lw_sumSets_56 : decode c_Lw_sumSets 56 = .ok (.aload_n 0, 1) := by decide +kernel
theorem d_Lw_sumSets_57 : decode c_Lw_sumSets 57 = .ok (.getfield 11, 3) := by decide +kernel
theorem d_Lw_sumSets_60 : decode c_Lw_sumSets 60 = .ok (.iload 7, 2) := by decide +kernel
theorem d_Lw_sumSets_62 : decode c_Lw_sumSets 62 = .ok (.iload 5, 2) := by decide +kernel
theorem d_Lw_sumSets_64 : decode c_Lw_sumSets 64 = .ok (.isub, 1) := by decide +kernel
theorem d_Lw_sumSets_65 : decode c_Lw_sumSets 65 = .ok (.iaload, 1) := by decide +kernel
theorem d_Lw_sumSets_66 : decode c_Lw_sumSets 66 = .ok (.iload 6, 2) := by decide +kernel
theorem d_Lw_sumSets_68 : decode c_Lw_sumSets 68 = .ok (.iadd, 1) := by decide +kernel
theorem d_Lw_sumSets_69 : decode c_Lw_sumSets 69 = .ok (.iastore, 1) := by decide +kernel
theorem d_Lw_sumSets_70 : decode c_Lw_sumSets 70 = .ok (.iinc 7 1, 3) := by decide +kernel
theorem d_Lw_sumSets_73 : decode c_Lw_sumSets 73 = .ok (.goto (-32), 3) := by decide +kernel
theorem d_Lw_sumSets_76 : decode c_Lw_sumSets 76 = .ok (.iinc 4 1, 3) := by decide +kernel
theorem d_Lw_sumSets_79 : decode c_Lw_sumSets 79 = .ok (.goto (-69), 3) := by decide +kernel
theorem d_Lw_sumSets_82 : decode c_Lw_sumSets 82 = .ok (.return_, 1) := by decide +kernel
theorem d_Lw_findFloors_0 : decode c_Lw_findFloors 0 = .ok (.aload_n 0, 1) := by decide +kernel
theorem d_Lw_findFloors_1 : decode c_Lw_findFloors 1 = .ok (.getfield 15, 3) := by decide +kernel
theorem d_Lw_findFloors_4 : decode c_Lw_findFloors 4 = .ok (.iconst 0, 1) := by decide +kernel
theorem d_Lw_findFloors_5 : decode c_Lw_findFloors 5 = .ok (.iconst 0, 1) := by decide +kernel
theorem d_Lw_findFloors_6 : decode c_Lw_findFloors 6 = .ok (.iastore, 1) := by decide +kernel
theorem d_Lw_findFloors_7 : decode c_Lw_findFloors 7 = .ok (.iconst 1, 1) := by decide +kernel
theorem d_Lw_findFloors_8 : decode c_Lw_findFloors 8 = .ok (.istore_n 2, 1) := by decide +kernel
theorem d_Lw_findFloors_9 : decode c_Lw_findFloors 9 = .ok (.iload_n 2, 1) := by decide +kernel
theorem d_Lw_findFloors_10 : decode c_Lw_findFloors 10 = .ok (.iconst 1, 1) := by decide +kernel
theorem d_Lw_findFloors_11 : decode c_Lw_findFloors 11 = .ok (.iload_n 1, 1) := by decide +kernel
theorem d_Lw_findFloors_12 : decode c_Lw_findFloors 12 = .ok (.ishl, 1) := by decide +kernel
theorem d_Lw_findFloors_13 : decode c_Lw_findFloors 13 = .ok (.if_icmp .ge 74, 3) := by decide +kernel
theorem d_Lw_findFloors_16 : decode c_Lw_findFloors 16 = .ok (.iload_n 2, 1) := by decide +kernel
theorem d_Lw_findFloors_17 : decode c_Lw_findFloors 17 = .ok (.invokestatic 84, 3) := by decide +kernel
theorem d_Lw_findFloors_20 : decode c_Lw_findFloors 20 = .ok (.istore_n 3, 1) := by decide +kernel
theorem d_Lw_findFloors_21 : decode c_Lw_findFloors 21 = .ok (.ldc 66, 2) := by decide +kernel
theorem d_Lw_findFloors_23 : decode c_Lw_findFloors 23 = .ok (.istore 4, 2) := by decide +kernel
theorem d_Lw_findFloors_25 : decode c_Lw_findFloors 25 = .ok (.iload_n 2, 1) := by decide +kernel
theorem d_Lw_findFloors_26 : decode c_Lw_findFloors 26 = .ok (.istore 5, 2) := by decide +kernel
theorem d_Lw_findFloors_28 : decode c_Lw_findFloors 28 = .ok (.iload 5, 2) := by decide +kernel
theorem d_Lw_findFloors_30 : decode c_Lw_findFloors 30 = .ok (.iload_n 3, 1) := by decide +kernel
theorem d_Lw_findFloors_31 : decode c_Lw_findFloors 31 = .ok (.if_icmp .lt 42, 3) := by decide +kernel
theorem d_Lw_findFloors_34 : decode c_Lw_findFloors 34 = .ok (.iload 4, 2) := by decide +kernel
theorem d_Lw_findFloors_36 : decode c_Lw_findFloors 36 = .ok (.aload_n 0, 1) := by decide +kernel
theorem d_Lw_findFloors_37 : decode c_Lw_findFloors 37 = .ok (.aload_n 0, 1) := by decide +kernel
theorem d_Lw_findFloors_38 : decode c_Lw_findFloors 38 = .ok (.getfield 11, 3) := by decide +kernel
theorem d_Lw_findFloors_41 : decode c_Lw_findFloors 41 = .ok (.iload 5, 2) := by decide +kernel
theorem d_Lw_findFloors_43 : decode c_Lw_findFloors 43 = .ok (.iaload, 1) := by decide +kernel
theorem d_Lw_findFloors_44 : decode c_Lw_findFloors 44 = .ok (.invokevirtual 88, 3) := by decide +kernel
theorem d_Lw_findFloors_47 : decode c_Lw_findFloors 47 = .ok (.aload_n 0, 1) := by decide +kernel
theorem d_Lw_findFloors_48 : decode c_Lw_findFloors 48 = .ok (.getfield 15, 3) := by decide +kernel
theorem d_Lw_findFloors_51 : decode c_Lw_findFloors 51 = .ok (.iload_n 2, 1) := by decide +kernel
theorem d_Lw_findFloors_52 : decode c_Lw_findFloors 52 = .ok (.iload 5, 2) := by decide +kernel
theorem d_Lw_findFloors_54 : decode c_Lw_findFloors 54 = .ok (.isub, 1) := by decide +kernel
theorem d_Lw_findFloors_55 : decode c_Lw_findFloors 55 = .ok (.iaload, 1) := by decide +kernel
theorem d_Lw_findFloors_56 : decode c_Lw_findFloors 56 = .ok (.iadd, 1) := by decide +kernel
theorem d_Lw_findFloors_57 : decode c_Lw_findFloors 57 = .ok (.invokestatic 91, 3) := by decide +kernel
theorem d_Lw_findFloors_60 : decode c_Lw_findFloors 60 = .ok (.istore 4, 2) := by decide +kernel
theorem d_Lw_findFloors_62 : decode c_Lw_findFloors 62 = .ok (.iload 5, 2) := by decide +kernel
theorem d_Lw_findFloors_64 : decode c_Lw_findFloors 64 = .ok (.iconst 1, 1) := by decide +kernel
theorem d_Lw_findFloors_65 : decode c_Lw_findFloors 65 = .ok (.isub, 1) := by decide +kernel
theorem d_Lw_findFloors_66 : decode c_Lw_findFloors 66 = .ok (.iload_n 2, 1) := by decide +kernel
theorem d_Lw_findFloors_67 : decode c_Lw_findFloors 67 = .ok (.iand, 1) := by decide +kernel
theorem d_Lw_findFloors_68 : decode c_Lw_findFloors 68 = .ok (.istore 5, 2) := by decide +kernel
theorem d_Lw_findFloors_70 : decode c_Lw_findFloors 70 = .ok (.goto (-42), 3) := by decide +kernel
theorem d_Lw_findFloors_73 : decode c_Lw_findFloors 73 = .ok (.aload_n 0, 1) := by decide +kernel
theorem d_Lw_findFloors_74 : decode c_Lw_findFloors 74 = .ok (.getfield 15, 3) := by decide +kernel
theorem d_Lw_findFloors_77 : decode c_Lw_findFloors 77 = .ok (.iload_n 2, 1) := by decide +kernel
theorem d_Lw_findFloors_78 : decode c_Lw_findFloors 78 = .ok (.iload 4, 2) := by decide +kernel
theorem d_Lw_findFloors_80 : decode c_Lw_findFloors 80 = .ok (.iastore, 1) := by decide +kernel
theorem d_Lw_findFloors_81 : decode c_Lw_findFloors 81 = .ok (.iinc 2 1, 3) := by decide +kernel
theorem d_Lw_findFloors_84 : decode c_Lw_findFloors 84 = .ok (.goto (-75), 3) := by decide +kernel
theorem d_Lw_findFloors_87 : decode c_Lw_findFloors 87 = .ok (.return_, 1) := by decide +kernel
theorem d_Lw_costOfCheapestBar_0 : decode c_Lw_costOfCheapestBar 0 = .ok (.ldc 66, 2) := by decide +kernel
theorem d_Lw_costOfCheapestBar_2 : decode c_Lw_costOfCheapestBar 2 = .ok (.istore_n 2, 1) := by decide +kernel
theorem d_Lw_costOfCheapestBar_3 : decode c_Lw_costOfCheapestBar 3 = .ok (.iconst 0, 1) := by decide +kernel
theorem d_Lw_costOfCheapestBar_4 : decode c_Lw_costOfCheapestBar 4 = .ok (.istore_n 3, 1) := by decide +kernel
theorem d_Lw_costOfCheapestBar_5 : decode c_Lw_costOfCheapestBar 5 = .ok (.iload_n 3, 1) := by decide +kernel
theorem d_Lw_costOfCheapestBar_6 : decode c_Lw_costOfCheapestBar 6 = .ok (.aload_n 0, 1) := by decide +kernel
theorem d_Lw_costOfCheapestBar_7 : decode c_Lw_costOfCheapestBar 7 = .ok (.getfield 47, 3) := by decide +kernel
theorem d_Lw_costOfCheapestBar_10 : decode c_Lw_costOfCheapestBar 10 = .ok (.if_icmp .ge 38, 3) := by decide +kernel
theorem d_Lw_costOfCheapestBar_13 : decode c_Lw_costOfCheapestBar 13 = .ok (.aload_n 0, 1) := by decide +kernel
theorem d_Lw_costOfCheapestBar_14 : decode c_Lw_costOfCheapestBar 14 = .ok (.getfield 21, 3) := by decide +kernel
theorem d_Lw_costOfCheapestBar_17 : decode c_Lw_costOfCheapestBar 17 = .ok (.iload_n 3, 1) := by decide +kernel
theorem d_Lw_costOfCheapestBar_18 : decode c_Lw_costOfCheapestBar 18 = .ok (.iaload, 1) := by decide +kernel
theorem d_Lw_costOfCheapestBar_19 : decode c_Lw_costOfCheapestBar 19 = .ok (.ifCond .le 23, 3) := by decide +kernel
theorem d_Lw_costOfCheapestBar_22 : decode c_Lw_costOfCheapestBar 22 = .ok (.aload_n 0, 1) := by decide +kernel
theorem d_Lw_costOfCheapestBar_23 : decode c_Lw_costOfCheapestBar 23 = .ok (.getfield 18, 3) := by decide +kernel
theorem d_Lw_costOfCheapestBar_26 : decode c_Lw_costOfCheapestBar 26 = .ok (.iload_n 3, 1) := by decide +kernel
theorem d_Lw_costOfCheapestBar_27 : decode c_Lw_costOfCheapestBar 27 = .ok (.iaload, 1) := by decide +kernel
theorem d_Lw_costOfCheapestBar_28 : decode c_Lw_costOfCheapestBar 28 = .ok (.iload_n 1, 1) := by decide +kernel
theorem d_Lw_costOfCheapestBar_29 : decode c_Lw_costOfCheapestBar 29 = .ok (.if_icmp .lt 13, 3) := by decide +kernel
theorem d_Lw_costOfCheapestBar_32 : decode c_Lw_costOfCheapestBar 32 = .ok (.iload_n 2, 1) := by decide +kernel
theorem d_Lw_costOfCheapestBar_33 : decode c_Lw_costOfCheapestBar 33 = .ok (.aload_n 0, 1) := by decide +kernel
theorem d_Lw_costOfCheapestBar_34 : decode c_Lw_costOfCheapestBar 34 = .ok (.iload_n 3, 1) := by decide +kernel
theorem d_Lw_costOfCheapestBar_35 : decode c_Lw_costOfCheapestBar 35 = .ok (.invokevirtual 97, 3) := by decide +kernel
theorem d_Lw_costOfCheapestBar_38 : decode c_Lw_costOfCheapestBar 38 = .ok (.invokestatic 91, 3) := by decide +kernel
theorem d_Lw_costOfCheapestBar_41 : decode c_Lw_costOfCheapestBar 41 = .ok (.istore_n 2, 1) := by decide +kernel
theorem d_Lw_costOfCheapestBar_42 : decode c_Lw_costOfCheapestBar 42 = .ok (.iinc 3 1, 3) := by decide +kernel
theorem d_Lw_costOfCheapestBar_45 : decode c_Lw_costOfCheapestBar 45 = .ok (.goto (-40), 3) := by decide +kernel
theorem d_Lw_costOfCheapestBar_48 : decode c_Lw_costOfCheapestBar 48 = .ok (.iload_n 2, 1) := by decide +kernel
theorem d_Lw_costOfCheapestBar_49 : decode c_Lw_costOfCheapestBar 49 = .ok (.ireturn, 1) := by decide +kernel
theorem d_Lw_costOfBar_0 : decode c_Lw_costOfBar 0 = .ok (.aload_n 0, 1) := by decide +kernel
theorem d_Lw_costOfBar_1 : decode c_Lw_costOfBar 1 = .ok (.getfield 18, 3) := by decide +kernel
theorem d_Lw_costOfBar_4 : decode c_Lw_costOfBar 4 = .ok (.iload_n 1, 1) := by decide +kernel
theorem d_Lw_costOfBar_5 : decode c_Lw_costOfBar 5 = .ok (.iaload, 1) := by decide +kernel
theorem d_Lw_costOfBar_6 : decode c_Lw_costOfBar 6 = .ok (.bipush 16, 2) := by decide +kernel
theorem d_Lw_costOfBar_8 : decode c_Lw_costOfBar 8 = .ok (.imul, 1) := by decide +kernel
theorem d_Lw_costOfBar_9 : decode c_Lw_costOfBar 9 = .ok (.iconst 1, 1) := by decide +kernel
theorem d_Lw_costOfBar_10 : decode c_Lw_costOfBar 10 = .ok (.iadd, 1) := by decide +kernel
theorem d_Lw_costOfBar_11 : decode c_Lw_costOfBar 11 = .ok (.ireturn, 1) := by decide +kernel
theorem d_Lw_search_0 : decode c_Lw_search 0 = .ok (.iload_n 2, 1) := by decide +kernel
theorem d_Lw_search_1 : decode c_Lw_search 1 = .ok (.ifCond .ne 10, 3) := by decide +kernel
theorem d_Lw_search_4 : decode c_Lw_search 4 = .ok (.aload_n 0, 1) := by decide +kernel
theorem d_Lw_search_5 : decode c_Lw_search 5 = .ok (.iload_n 1, 1) := by decide +kernel
theorem d_Lw_search_6 : decode c_Lw_search 6 = .ok (.iload_n 3, 1) := by decide +kernel
theorem d_Lw_search_7 : decode c_Lw_search 7 = .ok (.invokevirtual 100, 3) := by decide +kernel
theorem d_Lw_search_10 : decode c_Lw_search 10 = .ok (.return_, 1) := by decide +kernel
theorem d_Lw_search_11 : decode c_Lw_search 11 = .ok (.iload_n 1, 1) := by decide +kernel
theorem d_Lw_search_12 : decode c_Lw_search 12 = .ok (.bipush 8, 2) := by decide +kernel
theorem d_Lw_search_14 : decode c_Lw_search 14 = .ok (.if_icmp .lt 4, 3) := by decide +kernel
theorem d_Lw_search_17 : decode c_Lw_search 17 = .ok (.return_, 1) := by decide +kernel
theorem d_Lw_search_18 : decode c_Lw_search 18 = .ok (.iconst 0, 1) := by decide +kernel
theorem d_Lw_search_19 : decode c_Lw_search 19 = .ok (.istore 4, 2) := by decide +kernel
theorem d_Lw_search_21 : decode c_Lw_search 21 = .ok (.iload 4, 2) := by decide +kernel
theorem d_Lw_search_23 : decode c_Lw_search 23 = .ok (.aload_n 0, 1) := by decide +kernel
theorem d_Lw_search_24 : decode c_Lw_search 24 = .ok (.getfield 47, 3) := by decide +kernel
theorem d_Lw_search_27 : decode c_Lw_search 27 = .ok (.if_icmp .ge 63, 3) := by decide +kernel
theorem d_Lw_search_30 : decode c_Lw_search 30 = .ok (.aload_n 0, 1) := by decide +kernel
theorem d_Lw_search_31 : decode c_Lw_search 31 = .ok (.getfield 21, 3) := by decide +kernel
theorem d_Lw_search_34 : decode c_Lw_search 34 = .ok (.iload 4, 2) := by decide +kernel
theorem d_Lw_search_36 : decode c_Lw_search 36 = .ok (.iaload, 1) := by decide +kernel
theorem d_Lw_search_37 : decode c_Lw_search 37 = .ok (.ifCond .le 47, 3) := by decide +kernel
theorem d_Lw_search_40 : decode c_Lw_search 40 = .ok (.aload_n 0, 1) := by decide +kernel
theorem d_Lw_search_41 : decode c_Lw_search 41 = .ok (.getfield 21, 3) := by decide +kernel
theorem d_Lw_search_44 : decode c_Lw_search 44 = .ok (.iload 4, 2) := by decide +kernel
theorem d_Lw_search_46 : decode c_Lw_search 46 = .ok (.dup2, 1) := by decide +kernel
theorem d_Lw_search_47 : decode c_Lw_search 47 = .ok (.iaload, 1) := by decide +kernel
theorem d_Lw_search_48 : decode c_Lw_search 48 = .ok (.iconst 1, 1) := by decide +kernel
theorem d_Lw_search_49 : decode c_Lw_search 49 = .ok (.isub, 1) := by decide +kernel
theorem d_Lw_search_50 : decode c_Lw_search 50 = .ok (.iastore, 1) := by decide +kernel
theorem d_Lw_search_51 : decode c_Lw_search 51 = .ok (.aload_n 0, 1) := by decide +kernel
theorem d_Lw_search_52 : decode c_Lw_search 52 = .ok (.getfield 24, 3) := by decide +kernel
theorem d_Lw_search_55 : decode c_Lw_search 55 = .ok (.iload_n 1, 1) := by decide +kernel
theorem d_Lw_search_56 : decode c_Lw_search 56 = .ok (.iload 4, 2) := by decide +kernel
theorem d_Lw_search_58 : decode c_Lw_search 58 = .ok (.iastore, 1) := by decide +kernel
theorem d_Lw_search_59 : decode c_Lw_search 59 = .ok (.aload_n 0, 1) := by decide +kernel
theorem d_Lw_search_60 : decode c_Lw_search 60 = .ok (.iload_n 1, 1) := by decide +kernel
theorem d_Lw_search_61 : decode c_Lw_search 61 = .ok (.iload_n 2, 1) := by decide +kernel
theorem d_Lw_search_62 : decode c_Lw_search 62 = .ok (.iload_n 3, 1) := by decide +kernel
theorem d_Lw_search_63 : decode c_Lw_search 63 = .ok (.aload_n 0, 1) := by decide +kernel
theorem d_Lw_search_64 : decode c_Lw_search 64 = .ok (.iload 4, 2) := by decide +kernel
theorem d_Lw_search_66 : decode c_Lw_search 66 = .ok (.invokevirtual 97, 3) := by decide +kernel
theorem d_Lw_search_69 : decode c_Lw_search 69 = .ok (.iadd, 1) := by decide +kernel
theorem d_Lw_search_70 : decode c_Lw_search 70 = .ok (.invokevirtual 104, 3) := by decide +kernel
theorem d_Lw_search_73 : decode c_Lw_search 73 = .ok (.aload_n 0, 1) := by decide +kernel
theorem d_Lw_search_74 : decode c_Lw_search 74 = .ok (.getfield 21, 3) := by decide +kernel
theorem d_Lw_search_77 : decode c_Lw_search 77 = .ok (.iload 4, 2) := by decide +kernel
theorem d_Lw_search_79 : decode c_Lw_search 79 = .ok (.dup2, 1) := by decide +kernel
theorem d_Lw_search_80 : decode c_Lw_search 80 = .ok (.iaload, 1) := by decide +kernel
theorem d_Lw_search_81 : decode c_Lw_search 81 = .ok (.iconst 1, 1) := by decide +kernel
theorem d_Lw_search_82 : decode c_Lw_search 82 = .ok (.iadd, 1) := by decide +kernel
theorem d_Lw_search_83 : decode c_Lw_search 83 = .ok (.iastore, 1) := by decide +kernel
theorem d_Lw_search_84 : decode c_Lw_search 84 = .ok (.iinc 4 1, 3) := by decide +kernel
theorem d_Lw_search_87 : decode c_Lw_search 87 = .ok (.goto (-66), 3) := by decide +kernel
theorem d_Lw_search_90 : decode c_Lw_search 90 = .ok (.return_, 1) := by decide +kernel
theorem d_Lw_searchRows_0 : decode c_Lw_searchRows 0 = .ok (.iload_n 2, 1) := by decide +kernel
theorem d_Lw_searchRows_1 : decode c_Lw_searchRows 1 = .ok (.invokestatic 84, 3) := by decide +kernel
theorem d_Lw_searchRows_4 : decode c_Lw_searchRows 4 = .ok (.istore 4, 2) := by decide +kernel
theorem d_Lw_searchRows_6 : decode c_Lw_searchRows 6 = .ok (.aload_n 0, 1) := by decide +kernel
theorem d_Lw_searchRows_7 : decode c_Lw_searchRows 7 = .ok (.getfield 18, 3) := by decide +kernel
theorem d_Lw_searchRows_10 : decode c_Lw_searchRows 10 = .ok (.aload_n 0, 1) := by decide +kernel
theorem d_Lw_searchRows_11 : decode c_Lw_searchRows 11 = .ok (.getfield 24, 3) := by decide +kernel
theorem d_Lw_searchRows_14 : decode c_Lw_searchRows 14 = .ok (.iload_n 1, 1) := by decide +kernel
theorem d_Lw_searchRows_15 : decode c_Lw_searchRows 15 = .ok (.iaload, 1) := by decide +kernel
theorem d_Lw_searchRows_16 : decode c_Lw_searchRows 16 = .ok (.iaload, 1) := by decide +kernel
theorem d_Lw_searchRows_17 : decode c_Lw_searchRows 17 = .ok (.istore 5, 2) := by decide +kernel
theorem d_Lw_searchRows_19 : decode c_Lw_searchRows 19 = .ok (.iload_n 2, 1) := by decide +kernel
theorem d_Lw_searchRows_20 : decode c_Lw_searchRows 20 = .ok (.istore 6, 2) := by decide +kernel
theorem d_Lw_searchRows_22 : decode c_Lw_searchRows 22 = .ok (.iload 6, 2) := by decide +kernel
theorem d_Lw_searchRows_24 : decode c_Lw_searchRows 24 = .ok (.iload 4, 2) := by decide +kernel
theorem d_Lw_searchRows_26 : decode c_Lw_searchRows 26 = .ok (.if_icmp .lt 64, 3) := by decide +kernel
theorem d_Lw_searchRows_29 : decode c_Lw_searchRows 29 = .ok (.aload_n 0, 1) := by decide +kernel
theorem d_Lw_searchRows_30 : decode c_Lw_searchRows 30 = .ok (.getfield 11, 3) := by decide +kernel
theorem d_Lw_searchRows_33 : decode c_Lw_searchRows 33 = .ok (.iload 6, 2) := by decide +kernel
theorem d_Lw_searchRows_35 : decode c_Lw_searchRows 35 = .ok (.iaload, 1) := by decide +kernel
theorem d_Lw_searchRows_36 : decode c_Lw_searchRows 36 = .ok (.iload 5, 2) := by decide +kernel
theorem d_Lw_searchRows_38 : decode c_Lw_searchRows 38 = .ok (.if_icmp .gt 41, 3) := by decide +kernel
theorem d_Lw_searchRows_41 : decode c_Lw_searchRows 41 = .ok (.iload_n 3, 1) := by decide +kernel
theorem d_Lw_searchRows_42 : decode c_Lw_searchRows 42 = .ok (.aload_n 0, 1) := by decide +kernel
theorem d_Lw_searchRows_43 : decode c_Lw_searchRows 43 = .ok (.getfield 15, 3) := by decide +kernel
theorem d_Lw_searchRows_46 : decode c_Lw_searchRows 46 = .ok (.iload_n 2, 1) := by decide +kernel
theorem d_Lw_searchRows_47 : decode c_Lw_searchRows 47 = .ok (.iload 6, 2) := by decide +kernel
theorem d_Lw_searchRows_49 : decode c_Lw_searchRows 49 = .ok (.isub, 1) := by decide +kernel
theorem d_Lw_searchRows_50 : decode c_Lw_searchRows 50 = .ok (.iaload, 1) := by decide +kernel
theorem d_Lw_searchRows_51 : decode c_Lw_searchRows 51 = .ok (.iadd, 1) := by decide +kernel
theorem d_Lw_searchRows_52 : decode c_Lw_searchRows 52 = .ok (.aload_n 0, 1) := by decide +kernel
theorem d_Lw_searchRows_53 : decode c_Lw_searchRows 53 = .ok (.getfield 67, 3) := by decide +kernel
theorem d_Lw_searchRows_56 : decode c_Lw_searchRows 56 = .ok (.if_icmp .ge 23, 3) := by decide +kernel
theorem d_Lw_searchRows_59 : decode c_Lw_searchRows 59 = .ok (.aload_n 0, 1) := by decide +kernel
theorem d_Lw_searchRows_60 : decode c_Lw_searchRows 60 = .ok (.getfield 27, 3) := by decide +kernel
theorem d_Lw_searchRows_63 : decode c_Lw_searchRows 63 = .ok (.iload_n 1, 1) := by decide +kernel
theorem d_Lw_searchRows_64 : decode c_Lw_searchRows 64 = .ok (.iload 6, 2) := by decide +kernel
theorem d_Lw_searchRows_66 : decode c_Lw_searchRows 66 = .ok (.iastore, 1) := by decide +kernel
theorem d_Lw_searchRows_67 : decode c_Lw_searchRows 67 = .ok (.aload_n 0, 1) := by decide +kernel
theorem d_Lw_searchRows_68 : decode c_Lw_searchRows 68 = .ok (.iload_n 1, 1) := by decide +kernel
theorem d_Lw_searchRows_69 : decode c_Lw_searchRows 69 = .ok (.iconst 1, 1) := by decide +kernel
theorem d_Lw_searchRows_70 : decode c_Lw_searchRows 70 = .ok (.iadd, 1) := by decide +kernel
theorem d_Lw_searchRows_71 : decode c_Lw_searchRows 71 = .ok (.iload_n 2, 1) := by decide +kernel
theorem d_Lw_searchRows_72 : decode c_Lw_searchRows 72 = .ok (.iload 6, 2) := by decide +kernel
theorem d_Lw_searchRows_74 : decode c_Lw_searchRows 74 = .ok (.isub, 1) := by decide +kernel
theorem d_Lw_searchRows_75 : decode c_Lw_searchRows 75 = .ok (.iload_n 3, 1) := by decide +kernel
theorem d_Lw_searchRows_76 : decode c_Lw_searchRows 76 = .ok (.invokevirtual 73, 3) := by decide +kernel
theorem d_Lw_searchRows_79 : decode c_Lw_searchRows 79 = .ok (.iload 6, 2) := by decide +kernel
theorem d_Lw_searchRows_81 : decode c_Lw_searchRows 81 = .ok (.iconst 1, 1) := by decide +kernel
theorem d_Lw_searchRows_82 : decode c_Lw_searchRows 82 = .ok (.isub, 1) := by decide +kernel
theorem d_Lw_searchRows_83 : decode c_Lw_searchRows 83 = .ok (.iload_n 2, 1) := by decide +kernel
theorem d_Lw_searchRows_84 : decode c_Lw_searchRows 84 = .ok (.iand, 1) := by decide +kernel
theorem d_Lw_searchRows_85 : decode c_Lw_searchRows 85 = .ok (.istore 6, 2) := by decide +kernel
theorem d_Lw_searchRows_87 : decode c_Lw_searchRows 87 = .ok (.goto (-65), 3) := by decide +kernel
theorem d_Lw_searchRows_90 : decode c_Lw_searchRows 90 = .ok (.return_, 1) := by decide +kernel
theorem d_Lw_keep_0 : decode c_Lw_keep 0 = .ok (.aload_n 0, 1) := by decide +kernel
theorem d_Lw_keep_1 : decode c_Lw_keep 1 = .ok (.iload_n 2, 1) := by decide +kernel
theorem d_Lw_keep_2 : decode c_Lw_keep 2 = .ok (.putfield 67, 3) := by decide +kernel
theorem d_Lw_keep_5 : decode c_Lw_keep 5 = .ok (.aload_n 0, 1) := by decide +kernel
theorem d_Lw_keep_6 : decode c_Lw_keep 6 = .ok (.iload_n 1, 1) := by decide +kernel
theorem d_Lw_keep_7 : decode c_Lw_keep 7 = .ok (.putfield 70, 3) := by decide +kernel
theorem d_Lw_keep_10 : decode c_Lw_keep 10 = .ok (.iconst 0, 1) := by decide +kernel
theorem d_Lw_keep_11 : decode c_Lw_keep 11 = .ok (.istore_n 3, 1) := by decide +kernel
theorem d_Lw_keep_12 : decode c_Lw_keep 12 = .ok (.iload_n 3, 1) := by decide +kernel
theorem d_Lw_keep_13 : decode c_Lw_keep 13 = .ok (.iload_n 1, 1) := by decide +kernel
theorem d_Lw_keep_14 : decode c_Lw_keep 14 = .ok (.if_icmp .ge 33, 3) := by decide +kernel
theorem d_Lw_keep_17 : decode c_Lw_keep 17 = .ok (.aload_n 0, 1) := by decide +kernel
theorem d_Lw_keep_18 : decode c_Lw_keep 18 = .ok (.getfield 30, 3) := by decide +kernel
theorem d_Lw_keep_21 : decode c_Lw_keep 21 = .ok (.iload_n 3, 1) := by decide +kernel
theorem d_Lw_keep_22 : decode c_Lw_keep 22 = .ok (.aload_n 0, 1) := by decide +kernel
theorem d_Lw_keep_23 : decode c_Lw_keep 23 = .ok (.getfield 24, 3) := by decide +kernel
theorem d_Lw_keep_26 : decode c_Lw_keep 26 = .ok (.iload_n 3, 1) := by decide +kernel
theorem d_Lw_keep_27 : decode c_Lw_keep 27 = .ok (.iaload, 1) := by decide +kernel
theorem d_Lw_keep_28 : decode c_Lw_keep 28 = .ok (.iastore, 1) := by decide +kernel
theorem d_Lw_keep_29 : decode c_Lw_keep 29 = .ok (.aload_n 0, 1) := by decide +kernel
theorem d_Lw_keep_30 : decode c_Lw_keep 30 = .ok (.getfield 33, 3) := by decide +kernel
theorem d_Lw_keep_33 : decode c_Lw_keep 33 = .ok (.iload_n 3, 1) := by decide +kernel
theorem d_Lw_keep_34 : decode c_Lw_keep 34 = .ok (.aload_n 0, 1) := by decide +kernel
theorem d_Lw_keep_35 : decode c_Lw_keep 35 = .ok (.getfield 27, 3) := by decide +kernel
theorem d_Lw_keep_38 : decode c_Lw_keep 38 = .ok (.iload_n 3, 1) := by decide +kernel
theorem d_Lw_keep_39 : decode c_Lw_keep 39 = .ok (.iaload, 1) := by decide +kernel
theorem d_Lw_keep_40 : decode c_Lw_keep 40 = .ok (.iastore, 1) := by decide +kernel
theorem d_Lw_keep_41 : decode c_Lw_keep 41 = .ok (.iinc 3 1, 3) := by decide +kernel
theorem d_Lw_keep_44 : decode c_Lw_keep 44 = .ok (.goto (-32), 3) := by decide +kernel
theorem d_Lw_keep_47 : decode c_Lw_keep 47 = .ok (.return_, 1) := by decide +kernel
theorem d_Lw_writeBest_0 : decode c_Lw_writeBest 0 = .ok (.iconst 0, 1) := by decide +kernel
theorem d_Lw_writeBest_1 : decode c_Lw_writeBest 1 = .ok (.istore 4, 2) := by decide +kernel
theorem d_Lw_writeBest_3 : decode c_Lw_writeBest 3 = .ok (.iload 4, 2) := by decide +kernel
theorem d_Lw_writeBest_5 : decode c_Lw_writeBest 5 = .ok (.aload_n 0, 1) := by decide +kernel
theorem d_Lw_writeBest_6 : decode c_Lw_writeBest 6 = .ok (.getfield 70, 3) := by decide +kernel
theorem d_Lw_writeBest_9 : decode c_Lw_writeBest 9 = .ok (.if_icmp .ge 86, 3) := by decide +kernel
theorem d_Lw_writeBest_12 : decode c_Lw_writeBest 12 = .ok (.aload_n 1, 1) := by decide +kernel
theorem d_Lw_writeBest_13 : decode c_Lw_writeBest 13 = .ok (.iload_n 3, 1) := by decide +kernel
theorem d_Lw_writeBest_14 : decode c_Lw_writeBest 14 = .ok (.aload_n 0, 1) := by decide +kernel
theorem d_Lw_writeBest_15 : decode c_Lw_writeBest 15 = .ok (.getfield 18, 3) := by decide +kernel
theorem d_Lw_writeBest_18 : decode c_Lw_writeBest 18 = .ok (.aload_n 0, 1) := by decide +kernel
theorem d_Lw_writeBest_19 : decode c_Lw_writeBest 19 = .ok (.getfield 30, 3) := by decide +kernel
theorem d_Lw_writeBest_22 : decode c_Lw_writeBest 22 = .ok (.iload 4, 2) := by decide +kernel
theorem d_Lw_writeBest_24 : decode c_Lw_writeBest 24 = .ok (.iaload, 1) := by decide +kernel
theorem d_Lw_writeBest_25 : decode c_Lw_writeBest 25 = .ok (.iaload, 1) := by decide +kernel
theorem d_Lw_writeBest_26 : decode c_Lw_writeBest 26 = .ok (.invokevirtual 107, 3) := by decide +kernel
theorem d_Lw_writeBest_29 : decode c_Lw_writeBest 29 = .ok (.istore 5, 2) := by decide +kernel
theorem d_Lw_writeBest_31 : decode c_Lw_writeBest 31 = .ok (.iload 5, 2) := by decide +kernel
theorem d_Lw_writeBest_33 : decode c_Lw_writeBest 33 = .ok (.bipush (-2), 2) := by decide +kernel
theorem d_Lw_writeBest_35 : decode c_Lw_writeBest 35 = .ok (.if_icmp .ne 5, 3) := by decide +kernel
theorem d_Lw_writeBest_38 : decode c_Lw_writeBest 38 = .ok (.iconst 0, 1) := by decide +kernel
theorem d_Lw_writeBest_39 : decode c_Lw_writeBest 39 = .ok (.ireturn, 1) := by decide +kernel
theorem d_Lw_writeBest_40 : decode c_Lw_writeBest 40 = .ok (.iload_n 2, 1) := by decide +kernel
theorem d_Lw_writeBest_41 : decode c_Lw_writeBest 41 = .ok (.istore 6, 2) := by decide +kernel
theorem d_Lw_writeBest_43 : decode c_Lw_writeBest 43 = .ok (.iload 6, 2) := by decide +kernel
theorem d_Lw_writeBest_45 : decode c_Lw_writeBest 45 = .ok (.aload_n 1, 1) := by decide +kernel
theorem d_Lw_writeBest_46 : decode c_Lw_writeBest 46 = .ok (.getfield 36, 3) := by decide +kernel
theorem d_Lw_writeBest_49 : decode c_Lw_writeBest 49 = .ok (.if_icmp .ge 40, 3) := by decide +kernel
theorem d_Lw_writeBest_52 : decode c_Lw_writeBest 52 = .ok (.aload_n 0, 1) := by decide +kernel
theorem d_Lw_writeBest_53 : decode c_Lw_writeBest 53 = .ok (.getfield 33, 3) := by decide +kernel
theorem d_Lw_writeBest_56 : decode c_Lw_writeBest 56 = .ok (.iload 4, 2) := by decide +kernel
theorem d_Lw_writeBest_58 : decode c_Lw_writeBest 58 = .ok (.iaload, 1) := by decide +kernel
theorem d_Lw_writeBest_59 : decode c_Lw_writeBest 59 = .ok (.aload_n 1, 1) := by decide +kernel
theorem d_Lw_writeBest_60 : decode c_Lw_writeBest 60 = .ok (.getfield 36, 3) := by decide +kernel
theorem d_Lw_writeBest_63 : decode c_Lw_writeBest 63 = .ok (.iconst 1, 1) := by decide +kernel
theorem d_Lw_writeBest_64 : decode c_Lw_writeBest 64 = .ok (.isub, 1) := by decide +kernel
theorem d_Lw_writeBest_65 : decode c_Lw_writeBest 65 = .ok (.iload 6, 2) := by decide +kernel
theorem d_Lw_writeBest_67 : decode c_Lw_writeBest 67 = .ok (.isub, 1) := by decide +kernel
theorem d_Lw_writeBest_68 : decode c_Lw_writeBest 68 = .ok (.ishr, 1) := by decide +kernel
theorem d_Lw_writeBest_69 : decode c_Lw_writeBest 69 = .ok (.iconst 1, 1) := by decide +kernel
theorem d_Lw_writeBest_70 : decode c_Lw_writeBest 70 = .ok (.iand, 1) := by decide +kernel
theorem d_Lw_writeBest_71 : decode c_Lw_writeBest 71 = .ok (.iconst 1, 1) := by decide +kernel
theorem d_Lw_writeBest_72 : decode c_Lw_writeBest 72 = .ok (.if_icmp .ne 11, 3) := by decide +kernel
theorem d_Lw_writeBest_75 : decode c_Lw_writeBest 75 = .ok (.aload_n 1, 1) := by decide +kernel
theorem d_Lw_writeBest_76 : decode c_Lw_writeBest 76 = .ok (.iload 6, 2) := by decide +kernel
theorem d_Lw_writeBest_78 : decode c_Lw_writeBest 78 = .ok (.iload 5, 2) := by decide +kernel
theorem d_Lw_writeBest_80 : decode c_Lw_writeBest 80 = .ok (.invokevirtual 110, 3) := by decide +kernel
theorem d_Lw_writeBest_83 : decode c_Lw_writeBest 83 = .ok (.iinc 6 1, 3) := by decide +kernel
theorem d_Lw_writeBest_86 : decode c_Lw_writeBest 86 = .ok (.goto (-43), 3) := by decide +kernel
theorem d_Lw_writeBest_89 : decode c_Lw_writeBest 89 = .ok (.iinc 4 1, 3) := by decide +kernel
theorem d_Lw_writeBest_92 : decode c_Lw_writeBest 92 = .ok (.goto (-89), 3) := by decide +kernel
theorem d_Lw_writeBest_95 : decode c_Lw_writeBest 95 = .ok (.iconst 1, 1) := by decide +kernel
theorem d_Lw_writeBest_96 : decode c_Lw_writeBest 96 = .ok (.ireturn, 1) := by decide +kernel
theorem d_Lw_highestBit_0 : decode c_Lw_highestBit 0 = .ok (.sipush 128, 3) := by decide +kernel
theorem d_Lw_highestBit_3 : decode c_Lw_highestBit 3 = .ok (.istore_n 1, 1) := by decide +kernel
theorem d_Lw_highestBit_4 : decode c_Lw_highestBit 4 = .ok (.iload_n 1, 1) := by decide +kernel
theorem d_Lw_highestBit_5 : decode c_Lw_highestBit 5 = .ok (.iconst 1, 1) := by decide +kernel
theorem d_Lw_highestBit_6 : decode c_Lw_highestBit 6 = .ok (.if_icmp .le 18, 3) := by decide +kernel
theorem d_Lw_highestBit_9 : decode c_Lw_highestBit 9 = .ok (.iload_n 0, 1) := by decide +kernel
theorem d_Lw_highestBit_10 : decode c_Lw_highestBit 10 = .ok (.iload_n 1, 1) := by decide +kernel
theorem d_Lw_highestBit_11 : decode c_Lw_highestBit 11 = .ok (.iand, 1) := by decide +kernel
theorem d_Lw_highestBit_12 : decode c_Lw_highestBit 12 = .ok (.ifCond .eq 5, 3) := by decide +kernel
theorem d_Lw_highestBit_15 : decode c_Lw_highestBit 15 = .ok (.iload_n 1, 1) := by decide +kernel
theorem d_Lw_highestBit_16 : decode c_Lw_highestBit 16 = .ok (.ireturn, 1) := by decide +kernel
theorem d_Lw_highestBit_17 : decode c_Lw_highestBit 17 = .ok (.iload_n 1, 1) := by decide +kernel
theorem d_Lw_highestBit_18 : decode c_Lw_highestBit 18 = .ok (.iconst 2, 1) := by decide +kernel
theorem d_Lw_highestBit_19 : decode c_Lw_highestBit 19 = .ok (.idiv, 1) := by decide +kernel
theorem d_Lw_highestBit_20 : decode c_Lw_highestBit 20 = .ok (.istore_n 1, 1) := by decide +kernel
theorem d_Lw_highestBit_21 : decode c_Lw_highestBit 21 = .ok (.goto (-17), 3) := by decide +kernel
theorem d_Lw_highestBit_24 : decode c_Lw_highestBit 24 = .ok (.iconst 1, 1) := by decide +kernel
theorem d_Lw_highestBit_25 : decode c_Lw_highestBit 25 = .ok (.ireturn, 1) := by decide +kernel
theorem d_Ln_init_0 : decode c_Ln_init 0 = .ok (.aload_n 0, 1) := by decide +kernel
theorem d_Ln_init_1 : decode c_Ln_init 1 = .ok (.invokespecial 3, 3) := by decide +kernel
theorem d_Ln_init_4 : decode c_Ln_init 4 = .ok (.aload_n 0, 1) := by decide +kernel
theorem d_Ln_init_5 : decode c_Ln_init 5 = .ok (.bipush 6, 2) := by decide +kernel
theorem d_Ln_init_7 : decode c_Ln_init 7 = .ok (.newarray .int, 2) := by decide +kernel
theorem d_Ln_init_9 : decode c_Ln_init 9 = .ok (.putfield 9, 3) := by decide +kernel
theorem d_Ln_init_12 : decode c_Ln_init 12 = .ok (.aload_n 0, 1) := by decide +kernel
theorem d_Ln_init_13 : decode c_Ln_init 13 = .ok (.iload_n 1, 1) := by decide +kernel
theorem d_Ln_init_14 : decode c_Ln_init 14 = .ok (.putfield 15, 3) := by decide +kernel
theorem d_Ln_init_17 : decode c_Ln_init 17 = .ok (.aload_n 0, 1) := by decide +kernel
theorem d_Ln_init_18 : decode c_Ln_init 18 = .ok (.aload_n 2, 1) := by decide +kernel
theorem d_Ln_init_19 : decode c_Ln_init 19 = .ok (.putfield 19, 3) := by decide +kernel
theorem d_Ln_init_22 : decode c_Ln_init 22 = .ok (.aload_n 0, 1) := by decide +kernel
theorem d_Ln_init_23 : decode c_Ln_init 23 = .ok (.iload_n 3, 1) := by decide +kernel
theorem d_Ln_init_24 : decode c_Ln_init 24 = .ok (.putfield 23, 3) := by decide +kernel
theorem d_Ln_init_27 : decode c_Ln_init 27 = .ok (.aload_n 0, 1) := by decide +kernel
theorem d_Ln_init_28 : decode c_Ln_init 28 = .ok (.iload 4, 2) := by decide +kernel
theorem d_Ln_init_30 : decode c_Ln_init 30 = .ok (.putfield 26, 3) := by decide +kernel
theorem d_Ln_init_33 : decode c_Ln_init 33 = .ok (.return_, 1) := by decide +kernel
theorem d_Ln_sumOfLegs_0 : decode c_Ln_sumOfLegs 0 = .ok (.iconst 0, 1) := by decide +kernel
theorem d_Ln_sumOfLegs_1 : decode c_Ln_sumOfLegs 1 = .ok (.istore_n 1, 1) := by decide +kernel
theorem d_Ln_sumOfLegs_2 : decode c_Ln_sumOfLegs 2 = .ok (.iconst 0, 1) := by decide +kernel
theorem d_Ln_sumOfLegs_3 : decode c_Ln_sumOfLegs 3 = .ok (.istore_n 2, 1) := by decide +kernel
theorem d_Ln_sumOfLegs_4 : decode c_Ln_sumOfLegs 4 = .ok (.iload_n 2, 1) := by decide +kernel
theorem d_Ln_sumOfLegs_5 : decode c_Ln_sumOfLegs 5 = .ok (.aload_n 0, 1) := by decide +kernel
theorem d_Ln_sumOfLegs_6 : decode c_Ln_sumOfLegs 6 = .ok (.getfield 9, 3) := by decide +kernel
theorem d_Ln_sumOfLegs_9 : decode c_Ln_sumOfLegs 9 = .ok (.arraylength, 1) := by decide +kernel
theorem d_Ln_sumOfLegs_10 : decode c_Ln_sumOfLegs 10 = .ok (.if_icmp .ge 18, 3) := by decide +kernel
theorem d_Ln_sumOfLegs_13 : decode c_Ln_sumOfLegs 13 = .ok (.iload_n 1, 1) := by decide +kernel
theorem d_Ln_sumOfLegs_14 : decode c_Ln_sumOfLegs 14 = .ok (.aload_n 0, 1) := by decide +kernel
theorem d_Ln_sumOfLegs_15 : decode c_Ln_sumOfLegs 15 = .ok (.getfield 9, 3) := by decide +kernel
theorem d_Ln_sumOfLegs_18 : decode c_Ln_sumOfLegs 18 = .ok (.iload_n 2, 1) := by decide +kernel
theorem d_Ln_sumOfLegs_19 : decode c_Ln_sumOfLegs 19 = .ok (.iaload, 1) := by decide +kernel
theorem d_Ln_sumOfLegs_20 : decode c_Ln_sumOfLegs 20 = .ok (.iadd, 1) := by decide +kernel
theorem d_Ln_sumOfLegs_21 : decode c_Ln_sumOfLegs 21 = .ok (.istore_n 1, 1) := by decide +kernel
theorem d_Ln_sumOfLegs_22 : decode c_Ln_sumOfLegs 22 = .ok (.iinc 2 1, 3) := by decide +kernel
theorem d_Ln_sumOfLegs_25 : decode c_Ln_sumOfLegs 25 = .ok (.goto (-21), 3) := by decide +kernel
theorem d_Ln_sumOfLegs_28 : decode c_Ln_sumOfLegs 28 = .ok (.iload_n 1, 1) := by decide +kernel
theorem d_Ln_sumOfLegs_29 : decode c_Ln_sumOfLegs 29 = .ok (.ireturn, 1) := by decide +kernel
theorem d_Ln_allLegsTold_0 : decode c_Ln_allLegsTold 0 = .ok (.iconst 0, 1) := by decide +kernel
theorem d_Ln_allLegsTold_1 : decode c_Ln_allLegsTold 1 = .ok (.istore_n 1, 1) := by decide +kernel
theorem d_Ln_allLegsTold_2 : decode c_Ln_allLegsTold 2 = .ok (.iload_n 1, 1) := by decide +kernel
theorem d_Ln_allLegsTold_3 : decode c_Ln_allLegsTold 3 = .ok (.aload_n 0, 1) := by decide +kernel
theorem d_Ln_allLegsTold_4 : decode c_Ln_allLegsTold 4 = .ok (.getfield 19, 3) := by decide +kernel
theorem d_Ln_allLegsTold_7 : decode c_Ln_allLegsTold 7 = .ok (.getfield 29, 3) := by decide +kernel
theorem d_Ln_allLegsTold_10 : decode c_Ln_allLegsTold 10 = .ok (.if_icmp .ge 20, 3) := by decide +kernel
theorem d_Ln_allLegsTold_13 : decode c_Ln_allLegsTold 13 = .ok (.aload_n 0, 1) := by decide +kernel
theorem d_Ln_allLegsTold_14 : decode c_Ln_allLegsTold 14 = .ok (.getfield 9, 3) := by decide +kernel
theorem d_Ln_allLegsTold_17 : decode c_Ln_allLegsTold 17 = .ok (.iload_n 1, 1) := by decide +kernel
theorem d_Ln_allLegsTold_18 : decode c_Ln_allLegsTold 18 = .ok (.iaload, 1) := by decide +kernel
theorem d_Ln_allLegsTold_19 : decode c_Ln_allLegsTold 19 = .ok (.ifCond .ne 5, 3) := by decide +kernel
theorem d_Ln_allLegsTold_22 : decode c_Ln_allLegsTold 22 = .ok (.iconst 0, 1) := by decide +kernel
theorem d_Ln_allLegsTold_23 : decode c_Ln_allLegsTold 23 = .ok (.ireturn, 1) := by decide +kernel
theorem d_Ln_allLegsTold_24 : decode c_Ln_allLegsTold 24 = .ok (.iinc 1 1, 3) := by decide +kernel
theorem d_Ln_allLegsTold_27 : decode c_Ln_allLegsTold 27 = .ok (.goto (-25), 3) := by decide +kernel
theorem d_Ln_allLegsTold_30 : decode c_Ln_allLegsTold 30 = .ok (.iconst 1, 1) := by decide +kernel
theorem d_Ln_allLegsTold_31 : decode c_Ln_allLegsTold 31 = .ok (.ireturn, 1) := by decide +kernel
theorem d_Ln_thing_0 : decode c_Ln_thing 0 = .ok (.iload_n 1, 1) := by decide +kernel
theorem d_Ln_thing_1 : decode c_Ln_thing 1 = .ok (.tableswitch 42 0 2 #[27, 32, 37], 27) := by decide +kernel
theorem d_Ln_thing_28 : decode c_Ln_thing 28 = .ok (.aload_n 0, 1) := by decide +kernel
theorem d_Ln_thing_29 : decode c_Ln_thing 29 = .ok (.getfield 15, 3) := by decide +kernel
theorem d_Ln_thing_32 : decode c_Ln_thing 32 = .ok (.ireturn, 1) := by decide +kernel
theorem d_Ln_thing_33 : decode c_Ln_thing 33 = .ok (.aload_n 0, 1) := by decide +kernel
theorem d_Ln_thing_34 : decode c_Ln_thing 34 = .ok (.getfield 23, 3) := by decide +kernel
theorem d_Ln_thing_37 : decode c_Ln_thing 37 = .ok (.ireturn, 1) := by decide +kernel
theorem d_Ln_thing_38 : decode c_Ln_thing 38 = .ok (.aload_n 0, 1) := by decide +kernel
theorem d_Ln_thing_39 : decode c_Ln_thing 39 = .ok (.getfield 26, 3) := by decide +kernel
theorem d_Ln_thing_42 : decode c_Ln_thing 42 = .ok (.ireturn, 1) := by decide +kernel
theorem d_Ln_thing_43 : decode c_Ln_thing 43 = .ok (.iload_n 1, 1) := by decide +kernel
theorem d_Ln_thing_44 : decode c_Ln_thing 44 = .ok (.iconst 3, 1) := by decide +kernel
theorem d_Ln_thing_45 : decode c_Ln_thing 45 = .ok (.isub, 1) := by decide +kernel
theorem d_Ln_thing_46 : decode c_Ln_thing 46 = .ok (.istore_n 2, 1) := by decide +kernel
theorem d_Ln_thing_47 : decode c_Ln_thing 47 = .ok (.iload_n 2, 1) := by decide +kernel
theorem d_Ln_thing_48 : decode c_Ln_thing 48 = .ok (.ifCond .lt 21, 3) := by decide +kernel
theorem d_Ln_thing_51 : decode c_Ln_thing 51 = .ok (.iload_n 2, 1) := by decide +kernel
theorem d_Ln_thing_52 : decode c_Ln_thing 52 = .ok (.aload_n 0, 1) := by decide +kernel
theorem d_Ln_thing_53 : decode c_Ln_thing 53 = .ok (.getfield 9, 3) := by decide +kernel
theorem d_Ln_thing_56 : decode c_Ln_thing 56 = .ok (.arraylength, 1) := by decide +kernel
theorem d_Ln_thing_57 : decode c_Ln_thing 57 = .ok (.if_icmp .ge 12, 3) := by decide +kernel
theorem d_Ln_thing_60 : decode c_Ln_thing 60 = .ok (.aload_n 0, 1) := by decide +kernel
theorem d_Ln_thing_61 : decode c_Ln_thing 61 = .ok (.getfield 9, 3) := by decide +kernel
theorem d_Ln_thing_64 : decode c_Ln_thing 64 = .ok (.iload_n 2, 1) := by decide +kernel
theorem d_Ln_thing_65 : decode c_Ln_thing 65 = .ok (.iaload, 1) := by decide +kernel
theorem d_Ln_thing_66 : decode c_Ln_thing 66 = .ok (.goto 4, 3) := by decide +kernel
theorem d_Ln_thing_69 : decode c_Ln_thing 69 = .ok (.iconst 0, 1) := by decide +kernel
theorem d_Ln_thing_70 : decode c_Ln_thing 70 = .ok (.ireturn, 1) := by decide +kernel
theorem d_Ln_signOfTag_0 : decode c_Ln_signOfTag 0 = .ok (.aload_n 0, 1) := by decide +kernel
theorem d_Ln_signOfTag_1 : decode c_Ln_signOfTag 1 = .ok (.getfield 23, 3) := by decide +kernel
theorem d_Ln_signOfTag_4 : decode c_Ln_signOfTag 4 = .ok (.bipush 10, 2) := by decide +kernel
theorem d_Ln_signOfTag_6 : decode c_Ln_signOfTag 6 = .ok (.idiv, 1) := by decide +kernel
theorem d_Ln_signOfTag_7 : decode c_Ln_signOfTag 7 = .ok (.istore_n 2, 1) := by decide +kernel
theorem d_Ln_signOfTag_8 : decode c_Ln_signOfTag 8 = .ok (.iload_n 2, 1) := by decide +kernel
theorem d_Ln_signOfTag_9 : decode c_Ln_signOfTag 9 = .ok (.ifCond .le 7, 3) := by decide +kernel
theorem d_Ln_signOfTag_12 : decode c_Ln_signOfTag 12 = .ok (.iconst 3, 1) := by decide +kernel
theorem d_Ln_signOfTag_13 : decode c_Ln_signOfTag 13 = .ok (.goto 4, 3) := by decide +kernel
theorem d_Ln_signOfTag_16 : decode c_Ln_signOfTag 16 = .ok (.iconst 2, 1) := by decide +kernel
theorem d_Ln_signOfTag_17 : decode c_Ln_signOfTag 17 = .ok (.istore_n 3, 1) := by decide +kernel
theorem d_Ln_signOfTag_18 : decode c_Ln_signOfTag 18 = .ok (.iload_n 1, 1) := by decide +kernel
theorem d_Ln_signOfTag_19 : decode c_Ln_signOfTag 19 = .ok (.ifCond .gt 19, 3) := by decide +kernel
theorem d_Ln_signOfTag_22 : decode c_Ln_signOfTag 22 = .ok (.iload_n 1, 1) := by decide +kernel
theorem d_Ln_signOfTag_23 : decode c_Ln_signOfTag 23 = .ok (.ifCond .ge 7, 3) := by decide +kernel
theorem d_Ln_signOfTag_26 : decode c_Ln_signOfTag 26 = .ok (.iconst (-1), 1) := by decide +kernel
theorem d_Ln_signOfTag_27 : decode c_Ln_signOfTag 27 = .ok (.goto 10, 3) := by decide +kernel
theorem d_Ln_signOfTag_30 : decode c_Ln_signOfTag 30 = .ok (.bipush 48, 2) := by decide +kernel
theorem d_Ln_signOfTag_32 : decode c_Ln_signOfTag 32 = .ok (.aload_n 0, 1) := by decide +kernel
theorem d_Ln_signOfTag_33 : decode c_Ln_signOfTag 33 = .ok (.getfield 26, 3) := by decide +kernel
theorem d_Ln_signOfTag_36 : decode c_Ln_signOfTag 36 = .ok (.iadd, 1) := by decide +kernel
theorem d_Ln_signOfTag_37 : decode c_Ln_signOfTag 37 = .ok (.ireturn, 1) := by decide +kernel
theorem d_Ln_signOfTag_38 : decode c_Ln_signOfTag 38 = .ok (.iload_n 1, 1) := by decide +kernel
theorem d_Ln_signOfTag_39 : decode c_Ln_signOfTag 39 = .ok (.iconst 1, 1) := by decide +kernel
theorem d_Ln_signOfTag_40 : decode c_Ln_signOfTag 40 = .ok (.if_icmp .ne 6, 3) := by decide +kernel
theorem d_Ln_signOfTag_43 : decode c_Ln_signOfTag 43 = .ok (.bipush 120, 2) := by decide +kernel
theorem d_Ln_signOfTag_45 : decode c_Ln_signOfTag 45 = .ok (.ireturn, 1) := by decide +kernel
theorem d_Ln_signOfTag_46 : decode c_Ln_signOfTag 46 = .ok (.iload_n 1, 1) := by decide +kernel
theorem d_Ln_signOfTag_47 : decode c_Ln_signOfTag 47 = .ok (.iload_n 3, 1) := by decide +kernel
theorem d_Ln_signOfTag_48 : decode c_Ln_signOfTag 48 = .ok (.if_icmp .ge 8, 3) := by decide +kernel
theorem d_Ln_signOfTag_51 : decode c_Ln_signOfTag 51 = .ok (.bipush 48, 2) := by decide +kernel
theorem d_Ln_signOfTag_53 : decode c_Ln_signOfTag 53 = .ok (.iload_n 2, 1) := by decide +kernel
theorem d_Ln_signOfTag_54 : decode c_Ln_signOfTag 54 = .ok (.iadd, 1) := by decide +kernel
theorem d_Ln_signOfTag_55 : decode c_Ln_signOfTag 55 = .ok (.ireturn, 1) := by decide +kernel
theorem d_Ln_signOfTag_56 : decode c_Ln_signOfTag 56 = .ok (.iload_n 1, 1) := by decide +kernel
theorem d_Ln_signOfTag_57 : decode c_Ln_signOfTag 57 = .ok (.iload_n 3, 1) := by decide +kernel
theorem d_Ln_signOfTag_58 : decode c_Ln_signOfTag 58 = .ok (.if_icmp .ne 14, 3) := by decide +kernel
theorem d_Ln_signOfTag_61 : decode c_Ln_signOfTag 61 = .ok (.bipush 48, 2) := by decide +kernel
theorem d_Ln_signOfTag_63 : decode c_Ln_signOfTag 63 = .ok (.aload_n 0, 1) := by decide +kernel
theorem d_Ln_signOfTag_64 : decode c_Ln_signOfTag 64 = .ok (.getfield 23, 3) := by decide +kernel
theorem d_Ln_signOfTag_67 : decode c_Ln_signOfTag 67 = .ok (.bipush 10, 2) := by decide +kernel
theorem d_Ln_signOfTag_69 : decode c_Ln_signOfTag 69 = .ok (.irem, 1) := by decide +kernel
theorem d_Ln_signOfTag_70 : decode c_Ln_signOfTag 70 = .ok (.iadd, 1) := by decide +kernel
theorem d_Ln_signOfTag_71 : decode c_Ln_signOfTag 71 = .ok (.ireturn, 1) := by decide +kernel
theorem d_Ln_signOfTag_72 : decode c_Ln_signOfTag 72 = .ok (.iload_n 1, 1) := by decide +kernel
theorem d_Ln_signOfTag_73 : decode c_Ln_signOfTag 73 = .ok (.iload_n 3, 1) := by decide +kernel
theorem d_Ln_signOfTag_74 : decode c_Ln_signOfTag 74 = .ok (.iconst 1, 1) := by decide +kernel
theorem d_Ln_signOfTag_75 : decode c_Ln_signOfTag 75 = .ok (.iadd, 1) := by decide +kernel
theorem d_Ln_signOfTag_76 : decode c_Ln_signOfTag 76 = .ok (.if_icmp .ne 6, 3) := by decide +kernel
theorem d_Ln_signOfTag_79 : decode c_Ln_signOfTag 79 = .ok (.bipush 58, 2) := by decide +kernel
theorem d_Ln_signOfTag_81 : decode c_Ln_signOfTag 81 = .ok (.ireturn, 1) := by decide +kernel
theorem d_Ln_signOfTag_82 : decode c_Ln_signOfTag 82 = .ok (.iload_n 1, 1) := by decide +kernel
theorem d_Ln_signOfTag_83 : decode c_Ln_signOfTag 83 = .ok (.iload_n 3, 1) := by decide +kernel
theorem d_Ln_signOfTag_84 : decode c_Ln_signOfTag 84 = .ok (.isub, 1) := by decide +kernel
theorem d_Ln_signOfTag_85 : decode c_Ln_signOfTag 85 = .ok (.iconst 2, 1) := by decide +kernel
theorem d_Ln_signOfTag_86 : decode c_Ln_signOfTag 86 = .ok (.isub, 1) := by decide +kernel
theorem d_Ln_signOfTag_87 : decode c_Ln_signOfTag 87 = .ok (.istore 4, 2) := by decide +kernel
theorem d_Ln_signOfTag_89 : decode c_Ln_signOfTag 89 = .ok (.iload 4, 2) := by decide +kernel
theorem d_Ln_signOfTag_91 : decode c_Ln_signOfTag 91 = .ok (.aload_n 0, 1) := by decide +kernel
theorem d_Ln_signOfTag_92 : decode c_Ln_signOfTag 92 = .ok (.getfield 19, 3) := by decide +kernel
theorem d_Ln_signOfTag_95 : decode c_Ln_signOfTag 95 = .ok (.getfield 33, 3) := by decide +kernel
theorem d_Ln_signOfTag_98 : decode c_Ln_signOfTag 98 = .ok (.arraylength, 1) := by decide +kernel
theorem d_Ln_signOfTag_99 : decode c_Ln_signOfTag 99 = .ok (.if_icmp .ge 16, 3) := by decide +kernel
theorem d_Ln_signOfTag_102 : decode c_Ln_signOfTag 102 = .ok (.aload_n 0, 1) := by decide +kernel
theorem d_Ln_signOfTag_103 : decode c_Ln_signOfTag 103 = .ok (.getfield 19, 3) := by decide +kernel
theorem d_Ln_signOfTag_106 : decode c_Ln_signOfTag 106 = .ok (.getfield 33, 3) := by decide +kernel
theorem d_Ln_signOfTag_109 : decode c_Ln_signOfTag 109 = .ok (.iload 4, 2) := by decide +kernel
theorem d_Ln_signOfTag_111 : decode c_Ln_signOfTag 111 = .ok (.caload, 1) := by decide +kernel
theorem d_Ln_signOfTag_112 : decode c_Ln_signOfTag 112 = .ok (.goto 4, 3) := by decide +kernel
theorem d_Ln_signOfTag_115 : decode c_Ln_signOfTag 115 = .ok (.iconst (-1), 1) := by decide +kernel
theorem d_Ln_signOfTag_116 : decode c_Ln_signOfTag 116 = .ok (.ireturn, 1) := by decide +kernel
theorem d_Pl_init_0 : decode c_Pl_init 0 = .ok (.aload_n 0, 1) := by decide +kernel
theorem d_Pl_init_1 : decode c_Pl_init 1 = .ok (.invokespecial 3, 3) := by decide +kernel
theorem d_Pl_init_4 : decode c_Pl_init 4 = .ok (.aload_n 0, 1) := by decide +kernel
theorem d_Pl_init_5 : decode c_Pl_init 5 = .ok (.bipush 60, 2) := by decide +kernel
theorem d_Pl_init_7 : decode c_Pl_init 7 = .ok (.newarray .int, 2) := by decide +kernel
theorem d_Pl_init_9 : decode c_Pl_init 9 = .ok (.putfield 9, 3) := by decide +kernel
theorem d_Pl_init_12 : decode c_Pl_init 12 = .ok (.aload_n 0, 1) := by decide +kernel
theorem d_Pl_init_13 : decode c_Pl_init 13 = .ok (.bipush 60, 2) := by decide +kernel
theorem d_Pl_init_15 : decode c_Pl_init 15 = .ok (.newarray .int, 2) := by decide +kernel
theorem d_Pl_init_17 : decode c_Pl_init 17 = .ok (.putfield 15, 3) := by decide +kernel
theorem d_Pl_init_20 : decode c_Pl_init 20 = .ok (.aload_n 0, 1) := by decide +kernel
theorem d_Pl_init_21 : decode c_Pl_init 21 = .ok (.bipush 60, 2) := by decide +kernel
theorem d_Pl_init_23 : decode c_Pl_init 23 = .ok (.newarray .int, 2) := by decide +kernel
theorem d_Pl_init_25 : decode c_Pl_init 25 = .ok (.putfield 18, 3) := by decide +kernel
theorem d_Pl_init_28 : decode c_Pl_init 28 = .ok (.aload_n 0, 1) := by decide +kernel
theorem d_Pl_init_29 : decode c_Pl_init 29 = .ok (.bipush 60, 2) := by decide +kernel
theorem d_Pl_init_31 : decode c_Pl_init 31 = .ok (.newarray .int, 2) := by decide +kernel
theorem d_Pl_init_33 : decode c_Pl_init 33 = .ok (.putfield 21, 3) := by decide +kernel
theorem d_Pl_init_36 : decode c_Pl_init 36 = .ok (.aload_n 0, 1) := by decide +kernel
theorem d_Pl_init_37 : decode c_Pl_init 37 = .ok (.bipush 60, 2) := by decide +kernel
theorem d_Pl_init_39 : decode c_Pl_init 39 = .ok (.newarray .int, 2) := by decide +kernel
theorem d_Pl_init_41 : decode c_Pl_init 41 = .ok (.putfield 24, 3) := by decide +kernel
theorem d_Pl_init_44 : decode c_Pl_init 44 = .ok (.aload_n 0, 1) := by decide +kernel
theorem d_Pl_init_45 : decode c_Pl_init 45 = .ok (.bipush 60, 2) := by decide +kernel
theorem d_Pl_init_47 : decode c_Pl_init 47 = .ok (.newarray .int, 2) := by decide +kernel
theorem d_Pl_init_49 : decode c_Pl_init 49 = .ok (.putfield 27, 3) := by decide +kernel
theorem d_Pl_init_52 : decode c_Pl_init 52 = .ok (.aload_n 0, 1) := by decide +kernel
theorem d_Pl_init_53 : decode c_Pl_init 53 = .ok (.bipush 60, 2) := by decide +kernel
theorem d_Pl_init_55 : decode c_Pl_init 55 = .ok (.newarray .int, 2) := by decide +kernel
theorem d_Pl_init_57 : decode c_Pl_init 57 = .ok (.putfield 30, 3) := by decide +kernel
theorem d_Pl_init_60 : decode c_Pl_init 60 = .ok (.return_, 1) := by decide +kernel
theorem d_Pl_clear_0 : decode c_Pl_clear 0 = .ok (.aload_n 0, 1) := by decide +kernel
theorem d_Pl_clear_1 : decode c_Pl_clear 1 = .ok (.iconst 0, 1) := by decide +kernel
theorem d_Pl_clear_2 : decode c_Pl_clear 2 = .ok (.putfield 33, 3) := by decide +kernel
theorem d_Pl_clear_5 : decode c_Pl_clear 5 = .ok (.aload_n 0, 1) := by decide +kernel
theorem d_Pl_clear_6 : decode c_Pl_clear 6 = .ok (.iconst 0, 1) := by decide +kernel
theorem d_Pl_clear_7 : decode c_Pl_clear 7 = .ok (.putfield 37, 3) := by decide +kernel
theorem d_Pl_clear_10 : decode c_Pl_clear 10 = .ok (.aload_n 0, 1) := by decide +kernel
theorem d_Pl_clear_11 : decode c_Pl_clear 11 = .ok (.iconst 0, 1) := by decide +kernel
theorem d_Pl_clear_12 : decode c_Pl_clear 12 = .ok (.putfield 40, 3) := by decide +kernel
theorem d_Pl_clear_15 : decode c_Pl_clear 15 = .ok (.aload_n 0, 1) := by decide +kernel
theorem d_Pl_clear_16 : decode c_Pl_clear 16 = .ok (.iconst 0, 1) := by decide +kernel
theorem d_Pl_clear_17 : decode c_Pl_clear 17 = .ok (.putfield 43, 3) := by decide +kernel
theorem d_Pl_clear_20 : decode c_Pl_clear 20 = .ok (.aload_n 0, 1) := by decide +kernel
theorem d_Pl_clear_21 : decode c_Pl_clear 21 = .ok (.iconst 0, 1) := by decide +kernel
theorem d_Pl_clear_22 : decode c_Pl_clear 22 = .ok (.putfield 46, 3) := by decide +kernel
theorem d_Pl_clear_25 : decode c_Pl_clear 25 = .ok (.return_, 1) := by decide +kernel
theorem d_Pl_addPiece_0 : decode c_Pl_addPiece 0 = .ok (.aload_n 0, 1) := by decide +kernel
theorem d_Pl_addPiece_1 : decode c_Pl_addPiece 1 = .ok (.getfield 33, 3) := by decide +kernel
theorem d_Pl_addPiece_4 : decode c_Pl_addPiece 4 = .ok (.bipush 60, 2) := by decide +kernel
theorem d_Pl_addPiece_6 : decode c_Pl_addPiece 6 = .ok (.if_icmp .lt 4, 3) := by decide +kernel
theorem d_Pl_addPiece_9 : decode c_Pl_addPiece 9 = .ok (.return_, 1) := by decide +kernel
theorem d_Pl_addPiece_10 : decode c_Pl_addPiece 10 = .ok (.aload_n 0, 1) := by decide +kernel
theorem d_Pl_addPiece_11 : decode c_Pl_addPiece 11 = .ok (.getfield 33, 3) := by decide +kernel
theorem d_Pl_addPiece_14 : decode c_Pl_addPiece 14 = .ok (.istore 4, 2) := by decide +kernel
theorem d_Pl_addPiece_16 : decode c_Pl_addPiece 16 = .ok (.iload 4, 2) := by decide +kernel
theorem d_Pl_addPiece_18 : decode c_Pl_addPiece 18 = .ok (.iload_n 1, 1) := by decide +kernel
theorem d_Pl_addPiece_19 : decode c_Pl_addPiece 19 = .ok (.if_icmp .le 54, 3) := by decide +kernel
theorem d_Pl_addPiece_22 : decode c_Pl_addPiece 22 = .ok (.aload_n 0, 1) := by decide +kernel
theorem d_Pl_addPiece_23 : decode c_Pl_addPiece 23 = .ok (.getfield 15, 3) := by decide +kernel
theorem d_Pl_addPiece_26 : decode c_Pl_addPiece 26 = .ok (.iload 4, 2) := by decide +kernel
theorem d_Pl_addPiece_28 : decode c_Pl_addPiece 28 = .ok (.iconst 1, 1) := by decide +kernel
theorem d_Pl_addPiece_29 : decode c_Pl_addPiece 29 = .ok (.isub, 1) := by decide +kernel
theorem d_Pl_addPiece_30 : decode c_Pl_addPiece 30 = .ok (.iaload, 1) := by decide +kernel
theorem d_Pl_addPiece_31 : decode c_Pl_addPiece 31 = .ok (.iload_n 3, 1) := by decide +kernel
theorem d_Pl_addPiece_32 : decode c_Pl_addPiece 32 = .ok (.if_icmp .ge 41, 3) := by decide +kernel
theorem d_Pl_addPiece_35 : decode c_Pl_addPiece 35 = .ok (.aload_n 0, 1) := by decide +kernel
theorem d_Pl_addPiece_36 : decode c_Pl_addPiece 36 = .ok (.getfield 9, 3) := by decide +kernel
theorem d_Pl_addPiece_39 : decode c_Pl_addPiece 39 = .ok (.iload 4, 2) := by decide +kernel
theorem d_Pl_addPiece_41 : decode c_Pl_addPiece 41 = .ok (.aload_n 0, 1) := by decide +kernel
theorem d_Pl_addPiece_42 : decode c_Pl_addPiece 42 = .ok (.getfield 9, 3) := by decide +kernel
theorem d_Pl_addPiece_45 : decode c_Pl_addPiece 45 = .ok (.iload 4, 2) := by decide +kernel
theorem d_Pl_addPiece_47 : decode c_Pl_addPiece 47 = .ok (.iconst 1, 1) := by decide +kernel
theorem d_Pl_addPiece_48 : decode c_Pl_addPiece 48 = .ok (.isub, 1) := by decide +kernel
theorem d_Pl_addPiece_49 : decode c_Pl_addPiece 49 = .ok (.iaload, 1) := by decide +kernel
theorem d_Pl_addPiece_50 : decode c_Pl_addPiece 50 = .ok (.iastore, 1) := by decide +kernel
theorem d_Pl_addPiece_51 : decode c_Pl_addPiece 51 = .ok (.aload_n 0, 1) := by decide +kernel
theorem d_Pl_addPiece_52 : decode c_Pl_addPiece 52 = .ok (.getfield 15, 3) := by decide +kernel
theorem d_Pl_addPiece_55 : decode c_Pl_addPiece 55 = .ok (.iload 4, 2) := by decide +kernel
theorem d_Pl_addPiece_57 : decode c_Pl_addPiece 57 = .ok (.aload_n 0, 1) := by decide +kernel
theorem d_Pl_addPiece_58 : decode c_Pl_addPiece 58 = .ok (.getfield 15, 3) := by decide +kernel
theorem d_Pl_addPiece_61 : decode c_Pl_addPiece 61 = .ok (.iload 4, 2) := by decide +kernel
theorem d_Pl_addPiece_63 : decode c_Pl_addPiece 63 = .ok (.iconst 1, 1) := by decide +kernel
theorem d_Pl_addPiece_64 : decode c_Pl_addPiece 64 = .ok (.isub, 1) := by decide +kernel
theorem d_Pl_addPiece_65 : decode c_Pl_addPiece 65 = .ok (.iaload, 1) := by decide +kernel
theorem d_Pl_addPiece_66 : decode c_Pl_addPiece 66 = .ok (.iastore, 1) := by decide +kernel
theorem d_Pl_addPiece_67 : decode c_Pl_addPiece 67 = .ok (.iinc 4 (-1), 3) := by decide +kernel
theorem d_Pl_addPiece_70 : decode c_Pl_addPiece 70 = .ok (.goto (-54), 3) := by decide +kernel
theorem d_Pl_addPiece_73 : decode c_Pl_addPiece 73 = .ok (.aload_n 0, 1) := by decide +kernel
theorem d_Pl_addPiece_74 : decode c_Pl_addPiece 74 = .ok (.getfield 9, 3) := by decide +kernel
theorem d_Pl_addPiece_77 : decode c_Pl_addPiece 77 = .ok (.iload 4, 2) := by decide +kernel
theorem d_Pl_addPiece_79 : decode c_Pl_addPiece 79 = .ok (.iload_n 2, 1) := by decide +kernel
theorem d_Pl_addPiece_80 : decode c_Pl_addPiece 80 = .ok (.iastore, 1) := by decide +kernel
theorem d_Pl_addPiece_81 : decode c_Pl_addPiece 81 = .ok (.aload_n 0, 1) := by decide +kernel
theorem d_Pl_addPiece_82 : decode c_Pl_addPiece 82 = .ok (.getfield 15, 3) := by decide +kernel
theorem d_Pl_addPiece_85 : decode c_Pl_addPiece 85 = .ok (.iload 4, 2) := by decide +kernel
theorem d_Pl_addPiece_87 : decode c_Pl_addPiece 87 = .ok (.iload_n 3, 1) := by decide +kernel
theorem d_Pl_addPiece_88 : decode c_Pl_addPiece 88 = .ok (.iastore, 1) := by decide +kernel
theorem d_Pl_addPiece_89 : decode c_Pl_addPiece 89 = .ok (.aload_n 0, 1) := by decide +kernel
theorem d_Pl_addPiece_90 : decode c_Pl_addPiece 90 = .ok (.dup, 1) := by decide +kernel
theorem d_Pl_addPiece_91 : decode c_Pl_addPiece 91 = .ok (.getfield 33, 3) := by decide +kernel
theorem d_Pl_addPiece_94 : decode c_Pl_addPiece 94 = .ok (.iconst 1, 1) := by decide +kernel
theorem d_Pl_addPiece_95 : decode c_Pl_addPiece 95 = .ok (.iadd, 1) := by decide +kernel
theorem d_Pl_addPiece_96 : decode c_Pl_addPiece 96 = .ok (.putfield 33, 3) := by decide +kernel
theorem d_Pl_addPiece_99 : decode c_Pl_addPiece 99 = .ok (.return_, 1) := by decide +kernel
theorem d_Pl_openBar_0 : decode c_Pl_openBar 0 = .ok (.aload_n 0, 1) := by decide +kernel
theorem d_Pl_openBar_1 : decode c_Pl_openBar 1 = .ok (.getfield 37, 3) := by decide +kernel
theorem d_Pl_openBar_4 : decode c_Pl_openBar 4 = .ok (.bipush 60, 2) := by decide +kernel
theorem d_Pl_openBar_6 : decode c_Pl_openBar 6 = .ok (.if_icmp .lt 6, 3) := by decide +kernel
theorem d_Pl_openBar_9 : decode c_Pl_openBar 9 = .ok (.bipush (-2), 2) := by decide +kernel
theorem d_Pl_openBar_11 : decode c_Pl_openBar 11 = .ok (.ireturn, 1) := by decide +kernel
theorem d_Pl_openBar_12 : decode c_Pl_openBar 12 = .ok (.aload_n 0, 1) := by decide +kernel
theorem d_Pl_openBar_13 : decode c_Pl_openBar 13 = .ok (.getfield 21, 3) := by decide +kernel
theorem d_Pl_openBar_16 : decode c_Pl_openBar 16 = .ok (.aload_n 0, 1) := by decide +kernel
theorem d_Pl_openBar_17 : decode c_Pl_openBar 17 = .ok (.getfield 37, 3) := by decide +kernel
theorem d_Pl_openBar_20 : decode c_Pl_openBar 20 = .ok (.iload_n 1, 1) := by decide +kernel
theorem d_Pl_openBar_21 : decode c_Pl_openBar 21 = .ok (.iastore, 1) := by decide +kernel
theorem d_Pl_openBar_22 : decode c_Pl_openBar 22 = .ok (.aload_n 0, 1) := by decide +kernel
theorem d_Pl_openBar_23 : decode c_Pl_openBar 23 = .ok (.getfield 24, 3) := by decide +kernel
theorem d_Pl_openBar_26 : decode c_Pl_openBar 26 = .ok (.aload_n 0, 1) := by decide +kernel
theorem d_Pl_openBar_27 : decode c_Pl_openBar 27 = .ok (.getfield 37, 3) := by decide +kernel
theorem d_Pl_openBar_30 : decode c_Pl_openBar 30 = .ok (.iload_n 2, 1) := by decide +kernel
theorem d_Pl_openBar_31 : decode c_Pl_openBar 31 = .ok (.iastore, 1) := by decide +kernel
theorem d_Pl_openBar_32 : decode c_Pl_openBar 32 = .ok (.aload_n 0, 1) := by decide +kernel
theorem d_Pl_openBar_33 : decode c_Pl_openBar 33 = .ok (.getfield 27, 3) := by decide +kernel
theorem d_Pl_openBar_36 : decode c_Pl_openBar 36 = .ok (.aload_n 0, 1) := by decide +kernel
theorem d_Pl_openBar_37 : decode c_Pl_openBar 37 = .ok (.getfield 37, 3) := by decide +kernel
theorem d_Pl_openBar_40 : decode c_Pl_openBar 40 = .ok (.iload_n 2, 1) := by decide +kernel
theorem d_Pl_openBar_41 : decode c_Pl_openBar 41 = .ok (.iastore, 1) := by decide +kernel
theorem d_Pl_openBar_42 : decode c_Pl_openBar 42 = .ok (.aload_n 0, 1) := by decide +kernel
theorem d_Pl_openBar_43 : decode c_Pl_openBar 43 = .ok (.getfield 30, 3) := by decide +kernel
theorem d_Pl_openBar_46 : decode c_Pl_openBar 46 = .ok (.aload_n 0, 1) := by decide +kernel
theorem d_Pl_openBar_47 : decode c_Pl_openBar 47 = .ok (.getfield 37, 3) := by decide +kernel
theorem d_Pl_openBar_50 : decode c_Pl_openBar 50 = .ok (.iconst 0, 1) := by decide +kernel
theorem d_Pl_openBar_51 : decode c_Pl_openBar 51 = .ok (.iastore, 1) := by decide +kernel
theorem d_Pl_openBar_52 : decode c_Pl_openBar 52 = .ok (.aload_n 0, 1) := by decide +kernel
theorem d_Pl_openBar_53 : decode c_Pl_openBar 53 = .ok (.dup, 1) := by decide +kernel
theorem d_Pl_openBar_54 : decode c_Pl_openBar 54 = .ok (.getfield 37, 3) := by decide +kernel
theorem d_Pl_openBar_57 : decode c_Pl_openBar 57 = .ok (.iconst 1, 1) := by decide +kernel
theorem d_Pl_openBar_58 : decode c_Pl_openBar 58 = .ok (.iadd, 1) := by decide +kernel
theorem d_Pl_openBar_59 : decode c_Pl_openBar 59 = .ok (.putfield 37, 3) := by decide +kernel
theorem d_Pl_openBar_62 : decode c_Pl_openBar 62 = .ok (.aload_n 0, 1) := by decide +kernel
theorem d_Pl_openBar_63 : decode c_Pl_openBar 63 = .ok (.getfield 37, 3) := by decide +kernel
theorem d_Pl_openBar_66 : decode c_Pl_openBar 66 = .ok (.iconst 1, 1) := by decide +kernel
theorem d_Pl_openBar_67 : decode c_Pl_openBar 67 = .ok (.isub, 1) := by decide +kernel
theorem d_Pl_openBar_68 : decode c_Pl_openBar 68 = .ok (.ireturn, 1) := by decide +kernel
theorem d_Pl_putPiece_0 : decode c_Pl_putPiece 0 = .ok (.aload_n 0, 1) := by decide +kernel
theorem d_Pl_putPiece_1 : decode c_Pl_putPiece 1 = .ok (.getfield 18, 3) := by decide +kernel
theorem d_Pl_putPiece_4 : decode c_Pl_putPiece 4 = .ok (.iload_n 1, 1) := by decide +kernel
theorem d_Pl_putPiece_5 : decode c_Pl_putPiece 5 = .ok (.iload_n 2, 1) := by decide +kernel
theorem d_Pl_putPiece_6 : decode c_Pl_putPiece 6 = .ok (.iastore, 1) := by decide +kernel
theorem d_Pl_putPiece_7 : decode c_Pl_putPiece 7 = .ok (.aload_n 0, 1) := by decide +kernel
theorem d_Pl_putPiece_8 : decode c_Pl_putPiece 8 = .ok (.getfield 27, 3) := by decide +kernel
theorem d_Pl_putPiece_11 : decode c_Pl_putPiece 11 = .ok (.iload_n 2, 1) := by decide +kernel
theorem d_Pl_putPiece_12 : decode c_Pl_putPiece 12 = .ok (.dup2, 1) := by decide +kernel
theorem d_Pl_putPiece_13 : decode c_Pl_putPiece 13 = .ok (.iaload, 1) := by decide +kernel
theorem d_Pl_putPiece_14 : decode c_Pl_putPiece 14 = .ok (.aload_n 0, 1) := by decide +kernel
theorem d_Pl_putPiece_15 : decode c_Pl_putPiece 15 = .ok (.getfield 15, 3) := by decide +kernel
theorem d_Pl_putPiece_18 : decode c_Pl_putPiece 18 = .ok (.iload_n 1, 1) := by decide +kernel
theorem d_Pl_putPiece_19 : decode c_Pl_putPiece 19 = .ok (.iaload, 1) := by decide +kernel
theorem d_Pl_putPiece_20 : decode c_Pl_putPiece 20 = .ok (.isub, 1) := by decide +kernel
theorem d_Pl_putPiece_21 : decode c_Pl_putPiece 21 = .ok (.iastore, 1) := by decide +kernel
theorem d_Pl_putPiece_22 : decode c_Pl_putPiece 22 = .ok (.aload_n 0, 1) := by decide +kernel
theorem d_Pl_putPiece_23 : decode c_Pl_putPiece 23 = .ok (.getfield 30, 3) := by decide +kernel
theorem d_Pl_putPiece_26 : decode c_Pl_putPiece 26 = .ok (.iload_n 2, 1) := by decide +kernel
theorem d_Pl_putPiece_27 : decode c_Pl_putPiece 27 = .ok (.dup2, 1) := by decide +kernel
theorem d_Pl_putPiece_28 : decode c_Pl_putPiece 28 = .ok (.iaload, 1) := by decide +kernel
theorem d_Pl_putPiece_29 : decode c_Pl_putPiece 29 = .ok (.iconst 1, 1) := by decide +kernel
theorem d_Pl_putPiece_30 : decode c_Pl_putPiece 30 = .ok (.iadd, 1) := by decide +kernel
theorem d_Pl_putPiece_31 : decode c_Pl_putPiece 31 = .ok (.iastore, 1) := by decide +kernel
theorem d_Pl_putPiece_32 : decode c_Pl_putPiece 32 = .ok (.return_, 1) := by decide +kernel
theorem d_Pl_lineOfPiece_0 : decode c_Pl_lineOfPiece 0 = .ok (.iconst 0, 1) := by decide +kernel
theorem d_Pl_lineOfPiece_1 : decode c_Pl_lineOfPiece 1 = .ok (.istore_n 3, 1) := by decide +kernel
theorem d_Pl_lineOfPiece_2 : decode c_Pl_lineOfPiece 2 = .ok (.iconst 0, 1) := by decide +kernel
theorem d_Pl_lineOfPiece_3 : decode c_Pl_lineOfPiece 3 = .ok (.istore 4, 2) := by decide +kernel
theorem d_Pl_lineOfPiece_5 : decode c_Pl_lineOfPiece 5 = .ok (.iload 4, 2) := by decide +kernel
theorem d_Pl_lineOfPiece_7 : decode c_Pl_lineOfPiece 7 = .ok (.aload_n 0, 1) := by decide +kernel
theorem d_Pl_lineOfPiece_8 : decode c_Pl_lineOfPiece 8 = .ok (.getfield 33, 3) := by decide +kernel
theorem d_Pl_lineOfPiece_11 : decode c_Pl_lineOfPiece 11 = .ok (.if_icmp .ge 36, 3) := by decide +kernel
theorem d_Pl_lineOfPiece_14 : decode c_Pl_lineOfPiece 14 = .ok (.aload_n 0, 1) := by decide +kernel
theorem d_Pl_lineOfPiece_15 : decode c_Pl_lineOfPiece 15 = .ok (.getfield 18, 3) := by decide +kernel
theorem d_Pl_lineOfPiece_18 : decode c_Pl_lineOfPiece 18 = .ok (.iload 4, 2) := by decide +kernel
theorem d_Pl_lineOfPiece_20 : decode c_Pl_lineOfPiece 20 = .ok (.iaload, 1) := by decide +kernel
theorem d_Pl_lineOfPiece_21 : decode c_Pl_lineOfPiece 21 = .ok (.iload_n 1, 1) := by decide +kernel
theorem d_Pl_lineOfPiece_22 : decode c_Pl_lineOfPiece 22 = .ok (.if_icmp .ne 19, 3) := by decide +kernel
theorem d_Pl_lineOfPiece_25 : decode c_Pl_lineOfPiece 25 = .ok (.iload_n 3, 1) := by decide +kernel
theorem d_Pl_lineOfPiece_26 : decode c_Pl_lineOfPiece 26 = .ok (.iload_n 2, 1) := by decide +kernel
theorem d_Pl_lineOfPiece_27 : decode c_Pl_lineOfPiece 27 = .ok (.if_icmp .ne 11, 3) := by decide +kernel
theorem d_Pl_lineOfPiece_30 : decode c_Pl_lineOfPiece 30 = .ok (.aload_n 0, 1) := by decide +kernel
theorem d_Pl_lineOfPiece_31 : decode c_Pl_lineOfPiece 31 = .ok (.getfield 9, 3) := by decide +kernel
theorem d_Pl_lineOfPiece_34 : decode c_Pl_lineOfPiece 34 = .ok (.iload 4, 2) := by decide +kernel
theorem d_Pl_lineOfPiece_36 : decode c_Pl_lineOfPiece 36 = .ok (.iaload, 1) := by decide +kernel
theorem d_Pl_lineOfPiece_37 : decode c_Pl_lineOfPiece 37 = .ok (.ireturn, 1) := by decide +kernel
theorem d_Pl_lineOfPiece_38 : decode c_Pl_lineOfPiece 38 = .ok (.iinc 3 1, 3) := by decide +kernel
theorem d_Pl_lineOfPiece_41 : decode c_Pl_lineOfPiece 41 = .ok (.iinc 4 1, 3) := by decide +kernel
theorem d_Pl_lineOfPiece_44 : decode c_Pl_lineOfPiece 44 = .ok (.goto (-39), 3) := by decide +kernel
theorem d_Pl_lineOfPiece_47 : decode c_Pl_lineOfPiece 47 = .ok (.iconst (-1), 1) := by decide +kernel
theorem d_Pl_lineOfPiece_48 : decode c_Pl_lineOfPiece 48 = .ok (.ireturn, 1) := by decide +kernel
theorem d_Pl_sumOfBars_0 : decode c_Pl_sumOfBars 0 = .ok (.iconst 0, 1) := by decide +kernel
theorem d_Pl_sumOfBars_1 : decode c_Pl_sumOfBars 1 = .ok (.istore_n 1, 1) := by decide +kernel
theorem d_Pl_sumOfBars_2 : decode c_Pl_sumOfBars 2 = .ok (.iconst 0, 1) := by decide +kernel
theorem d_Pl_sumOfBars_3 : decode c_Pl_sumOfBars 3 = .ok (.istore_n 2, 1) := by decide +kernel
theorem d_Pl_sumOfBars_4 : decode c_Pl_sumOfBars 4 = .ok (.iload_n 2, 1) := by decide +kernel
theorem d_Pl_sumOfBars_5 : decode c_Pl_sumOfBars 5 = .ok (.aload_n 0, 1) := by decide +kernel
theorem d_Pl_sumOfBars_6 : decode c_Pl_sumOfBars 6 = .ok (.getfield 37, 3) := by decide +kernel
theorem d_Pl_sumOfBars_9 : decode c_Pl_sumOfBars 9 = .ok (.if_icmp .ge 18, 3) := by decide +kernel
theorem d_Pl_sumOfBars_12 : decode c_Pl_sumOfBars 12 = .ok (.iload_n 1, 1) := by decide +kernel
theorem d_Pl_sumOfBars_13 : decode c_Pl_sumOfBars 13 = .ok (.aload_n 0, 1) := by decide +kernel
theorem d_Pl_sumOfBars_14 : decode c_Pl_sumOfBars 14 = .ok (.getfield 24, 3) := by decide +kernel
theorem d_Pl_sumOfBars_17 : decode c_Pl_sumOfBars 17 = .ok (.iload_n 2, 1) := by decide +kernel
theorem d_Pl_sumOfBars_18 : decode c_Pl_sumOfBars 18 = .ok (.iaload, 1) := by decide +kernel
theorem d_Pl_sumOfBars_19 : decode c_Pl_sumOfBars 19 = .ok (.iadd, 1) := by decide +kernel
theorem d_Pl_sumOfBars_20 : decode c_Pl_sumOfBars 20 = .ok (.istore_n 1, 1) := by decide +kernel
theorem d_Pl_sumOfBars_21 : decode c_Pl_sumOfBars 21 = .ok (.iinc 2 1, 3) := by decide +kernel
theorem d_Pl_sumOfBars_24 : decode c_Pl_sumOfBars 24 = .ok (.goto (-20), 3) := by decide +kernel
theorem d_Pl_sumOfBars_27 : decode c_Pl_sumOfBars 27 = .ok (.iload_n 1, 1) := by decide +kernel
theorem d_Pl_sumOfBars_28 : decode c_Pl_sumOfBars 28 = .ok (.ireturn, 1) := by decide +kernel
theorem d_Pl_sumOfPieces_0 : decode c_Pl_sumOfPieces 0 = .ok (.iconst 0, 1) := by decide +kernel
theorem d_Pl_sumOfPieces_1 : decode c_Pl_sumOfPieces 1 = .ok (.istore_n 1, 1) := by decide +kernel
theorem d_Pl_sumOfPieces_2 : decode c_Pl_sumOfPieces 2 = .ok (.iconst 0, 1) := by decide +kernel
theorem d_Pl_sumOfPieces_3 : decode c_Pl_sumOfPieces 3 = .ok (.istore_n 2, 1) := by decide +kernel
theorem d_Pl_sumOfPieces_4 : decode c_Pl_sumOfPieces 4 = .ok (.iload_n 2, 1) := by decide +kernel
theorem d_Pl_sumOfPieces_5 : decode c_Pl_sumOfPieces 5 = .ok (.aload_n 0, 1) := by decide +kernel
theorem d_Pl_sumOfPieces_6 : decode c_Pl_sumOfPieces 6 = .ok (.getfield 33, 3) := by decide +kernel
theorem d_Pl_sumOfPieces_9 : decode c_Pl_sumOfPieces 9 = .ok (.if_icmp .ge 18, 3) := by decide +kernel
theorem d_Pl_sumOfPieces_12 : decode c_Pl_sumOfPieces 12 = .ok (.iload_n 1, 1) := by decide +kernel
theorem d_Pl_sumOfPieces_13 : decode c_Pl_sumOfPieces 13 = .ok (.aload_n 0, 1) := by decide +kernel
theorem d_Pl_sumOfPieces_14 : decode c_Pl_sumOfPieces 14 = .ok (.getfield 15, 3) := by decide +kernel
theorem d_Pl_sumOfPieces_17 : decode c_Pl_sumOfPieces 17 = .ok (.iload_n 2, 1) := by decide +kernel
theorem d_Pl_sumOfPieces_18 : decode c_Pl_sumOfPieces 18 = .ok (.iaload, 1) := by decide +kernel
theorem d_Pl_sumOfPieces_19 : decode c_Pl_sumOfPieces 19 = .ok (.iadd, 1) := by decide +kernel
theorem d_Pl_sumOfPieces_20 : decode c_Pl_sumOfPieces 20 = .ok (.istore_n 1, 1) := by decide +kernel
theorem d_Pl_sumOfPieces_21 : decode c_Pl_sumOfPieces 21 = .ok (.iinc 2 1, 3) := by decide +kernel
theorem d_Pl_sumOfPieces_24 : decode c_Pl_sumOfPieces 24 = .ok (.goto (-20), 3) := by decide +kernel
theorem d_Pl_sumOfPieces_27 : decode c_Pl_sumOfPieces 27 = .ok (.iload_n 1, 1) := by decide +kernel
theorem d_Pl_sumOfPieces_28 : decode c_Pl_sumOfPieces 28 = .ok (.ireturn, 1) := by decide +kernel
theorem d_Sh_init_0 : decode c_Sh_init 0 = .ok (.aload_n 0, 1) := by decide +kernel
theorem d_Sh_init_1 : decode c_Sh_init 1 = .ok (.invokespecial 1, 3) := by decide +kernel
theorem d_Sh_init_4 : decode c_Sh_init 4 = .ok (.aload_n 0, 1) := by decide +kernel
theorem d_Sh_init_5 : decode c_Sh_init 5 = .ok (.aload_n 1, 1) := by decide +kernel
theorem d_Sh_init_6 : decode c_Sh_init 6 = .ok (.putfield 7, 3) := by decide +kernel
theorem d_Sh_init_9 : decode c_Sh_init 9 = .ok (.aload_n 0, 1) := by decide +kernel
theorem d_Sh_init_10 : decode c_Sh_init 10 = .ok (.aload_n 1, 1) := by decide +kernel
theorem d_Sh_init_11 : decode c_Sh_init 11 = .ok (.arraylength, 1) := by decide +kernel
theorem d_Sh_init_12 : decode c_Sh_init 12 = .ok (.iconst 1, 1) := by decide +kernel
theorem d_Sh_init_13 : decode c_Sh_init 13 = .ok (.iadd, 1) := by decide +kernel
theorem d_Sh_init_14 : decode c_Sh_init 14 = .ok (.iconst 2, 1) := by decide +kernel
theorem d_Sh_init_15 : decode c_Sh_init 15 = .ok (.idiv, 1) := by decide +kernel
theorem d_Sh_init_16 : decode c_Sh_init 16 = .ok (.putfield 13, 3) := by decide +kernel
theorem d_Sh_init_19 : decode c_Sh_init 19 = .ok (.aload_n 0, 1) := by decide +kernel
theorem d_Sh_init_20 : decode c_Sh_init 20 = .ok (.iload_n 2, 1) := by decide +kernel
theorem d_Sh_init_21 : decode c_Sh_init 21 = .ok (.putfield 17, 3) := by decide +kernel
theorem d_Sh_init_24 : decode c_Sh_init 24 = .ok (.return_, 1) := by decide +kernel
theorem d_Sh_bendBefore_0 : decode c_Sh_bendBefore 0 = .ok (.iconst 2, 1) := by decide +kernel
theorem d_Sh_bendBefore_1 : decode c_Sh_bendBefore 1 = .ok (.iload_n 1, 1) := by decide +kernel
theorem d_Sh_bendBefore_2 : decode c_Sh_bendBefore 2 = .ok (.imul, 1) := by decide +kernel
theorem d_Sh_bendBefore_3 : decode c_Sh_bendBefore 3 = .ok (.iconst 1, 1) := by decide +kernel
theorem d_Sh_bendBefore_4 : decode c_Sh_bendBefore 4 = .ok (.isub, 1) := by decide +kernel
theorem d_Sh_bendBefore_5 : decode c_Sh_bendBefore 5 = .ok (.istore_n 2, 1) := by decide +kernel
theorem d_Sh_bendBefore_6 : decode c_Sh_bendBefore 6 = .ok (.iload_n 2, 1) := by decide +kernel
theorem d_Sh_bendBefore_7 : decode c_Sh_bendBefore 7 = .ok (.ifCond .le 21, 3) := by decide +kernel
theorem d_Sh_bendBefore_10 : decode c_Sh_bendBefore 10 = .ok (.iload_n 2, 1) := by decide +kernel
theorem d_Sh_bendBefore_11 : decode c_Sh_bendBefore 11 = .ok (.aload_n 0, 1) := by decide +kernel
theorem d_Sh_bendBefore_12 : decode c_Sh_bendBefore 12 = .ok (.getfield 7, 3) := by decide +kernel
theorem d_Sh_bendBefore_15 : decode c_Sh_bendBefore 15 = .ok (.arraylength, 1) := by decide +kernel
theorem d_Sh_bendBefore_16 : decode c_Sh_bendBefore 16 = .ok (.if_icmp .ge 12, 3) := by decide +kernel
theorem d_Sh_bendBefore_19 : decode c_Sh_bendBefore 19 = .ok (.aload_n 0, 1) := by decide +kernel
theorem d_Sh_bendBefore_20 : decode c_Sh_bendBefore 20 = .ok (.getfield 7, 3) := by decide +kernel
theorem d_Sh_bendBefore_23 : decode c_Sh_bendBefore 23 = .ok (.iload_n 2, 1) := by decide +kernel
theorem d_Sh_bendBefore_24 : decode c_Sh_bendBefore 24 = .ok (.caload, 1) := by decide +kernel
theorem d_Sh_bendBefore_25 : decode c_Sh_bendBefore 25 = .ok (.goto 5, 3) := by decide +kernel
theorem d_Sh_bendBefore_28 : decode c_Sh_bendBefore 28 = .ok (.bipush 32, 2) := by decide +kernel
theorem d_Sh_bendBefore_30 : decode c_Sh_bendBefore 30 = .ok (.ireturn, 1) := by decide +kernel
theorem d_Sf_init_0 : decode c_Sf_init 0 = .ok (.aload_n 0, 1) := by decide +kernel
theorem d_Sf_init_1 : decode c_Sf_init 1 = .ok (.invokespecial 3, 3) := by decide +kernel
theorem d_Sf_init_4 : decode c_Sf_init 4 = .ok (.aload_n 0, 1) := by decide +kernel
theorem d_Sf_init_5 : decode c_Sf_init 5 = .ok (.iconst 3, 1) := by decide +kernel
theorem d_Sf_init_6 : decode c_Sf_init 6 = .ok (.newarray .int, 2) := by decide +kernel
theorem d_Sf_init_8 : decode c_Sf_init 8 = .ok (.putfield 9, 3) := by decide +kernel
theorem d_Sf_init_11 : decode c_Sf_init 11 = .ok (.aload_n 0, 1) := by decide +kernel
theorem d_Sf_init_12 : decode c_Sf_init 12 = .ok (.iconst 3, 1) := by decide +kernel
theorem d_Sf_init_13 : decode c_Sf_init 13 = .ok (.newarray .int, 2) := by decide +kernel
theorem d_Sf_init_15 : decode c_Sf_init 15 = .ok (.putfield 15, 3) := by decide +kernel
theorem d_Sf_init_18 : decode c_Sf_init 18 = .ok (.return_, 1) := by decide +kernel
theorem d_Sf_add_0 : decode c_Sf_add 0 = .ok (.aload_n 0, 1) := by decide +kernel
theorem d_Sf_add_1 : decode c_Sf_add 1 = .ok (.getfield 18, 3) := by decide +kernel
theorem d_Sf_add_4 : decode c_Sf_add 4 = .ok (.iconst 3, 1) := by decide +kernel
theorem d_Sf_add_5 : decode c_Sf_add 5 = .ok (.if_icmp .lt 5, 3) := by decide +kernel
theorem d_Sf_add_8 : decode c_Sf_add 8 = .ok (.iconst 0, 1) := by decide +kernel
theorem d_Sf_add_9 : decode c_Sf_add 9 = .ok (.ireturn, 1) := by decide +kernel
theorem d_Sf_add_10 : decode c_Sf_add 10 = .ok (.aload_n 0, 1) := by decide +kernel
theorem d_Sf_add_11 : decode c_Sf_add 11 = .ok (.getfield 9, 3) := by decide +kernel
theorem d_Sf_add_14 : decode c_Sf_add 14 = .ok (.aload_n 0, 1) := by decide +kernel
theorem d_Sf_add_15 : decode c_Sf_add 15 = .ok (.getfield 18, 3) := by decide +kernel
theorem d_Sf_add_18 : decode c_Sf_add 18 = .ok (.iload_n 1, 1) := by decide +kernel
theorem d_Sf_add_19 : decode c_Sf_add 19 = .ok (.iastore, 1) := by decide +kernel
theorem d_Sf_add_20 : decode c_Sf_add 20 = .ok (.aload_n 0, 1) := by decide +kernel
theorem d_Sf_add_21 : decode c_Sf_add 21 = .ok (.getfield 15, 3) := by decide +kernel
theorem d_Sf_add_24 : decode c_Sf_add 24 = .ok (.aload_n 0, 1) := by decide +kernel
theorem d_Sf_add_25 : decode c_Sf_add 25 = .ok (.getfield 18, 3) := by decide +kernel
theorem d_Sf_add_28 : decode c_Sf_add 28 = .ok (.iload_n 2, 1) := by decide +kernel
theorem d_Sf_add_29 : decode c_Sf_add 29 = .ok (.iastore, 1) := by decide +kernel
theorem d_Sf_add_30 : decode c_Sf_add 30 = .ok (.aload_n 0, 1) := by decide +kernel
theorem d_Sf_add_31 : decode c_Sf_add 31 = .ok (.dup, 1) := by decide +kernel
theorem d_Sf_add_32 : decode c_Sf_add 32 = .ok (.getfield 18, 3) := by decide +kernel
theorem d_Sf_add_35 : decode c_Sf_add 35 = .ok (.iconst 1, 1) := by decide +kernel
theorem d_Sf_add_36 : decode c_Sf_add 36 = .ok (.iadd, 1) := by decide +kernel
theorem d_Sf_add_37 : decode c_Sf_add 37 = .ok (.putfield 18, 3) := by decide +kernel
theorem d_Sf_add_40 : decode c_Sf_add 40 = .ok (.iconst 1, 1) := by decide +kernel
theorem d_Sf_add_41 : decode c_Sf_add 41 = .ok (.ireturn, 1) := by decide +kernel
theorem d_Sf_greatest_0 : decode c_Sf_greatest 0 = .ok (.iconst 0, 1) := by decide +kernel
theorem d_Sf_greatest_1 : decode c_Sf_greatest 1 = .ok (.istore_n 1, 1) := by decide +kernel
theorem d_Sf_greatest_2 : decode c_Sf_greatest 2 = .ok (.iconst 0, 1) := by decide +kernel
theorem d_Sf_greatest_3 : decode c_Sf_greatest 3 = .ok (.istore_n 2, 1) := by decide +kernel
theorem d_Sf_greatest_4 : decode c_Sf_greatest 4 = .ok (.iload_n 2, 1) := by decide +kernel
theorem d_Sf_greatest_5 : decode c_Sf_greatest 5 = .ok (.aload_n 0, 1) := by decide +kernel
theorem d_Sf_greatest_6 : decode c_Sf_greatest 6 = .ok (.getfield 18, 3) := by decide +kernel
theorem d_Sf_greatest_9 : decode c_Sf_greatest 9 = .ok (.if_icmp .ge 20, 3) := by decide +kernel
theorem d_Sf_greatest_12 : decode c_Sf_greatest 12 = .ok (.iload_n 1, 1) := by decide +kernel
theorem d_Sf_greatest_13 : decode c_Sf_greatest 13 = .ok (.aload_n 0, 1) := by decide +kernel
theorem d_Sf_greatest_14 : decode c_Sf_greatest 14 = .ok (.getfield 9, 3) := by decide +kernel
theorem d_Sf_greatest_17 : decode c_Sf_greatest 17 = .ok (.iload_n 2, 1) := by decide +kernel
theorem d_Sf_greatest_18 : decode c_Sf_greatest 18 = .ok (.iaload, 1) := by decide +kernel
theorem d_Sf_greatest_19 : decode c_Sf_greatest 19 = .ok (.invokestatic 22, 3) := by decide +kernel
theorem d_Sf_greatest_22 : decode c_Sf_greatest 22 = .ok (.istore_n 1, 1) := by decide +kernel
theorem d_Sf_greatest_23 : decode c_Sf_greatest 23 = .ok (.iinc 2 1, 3) := by decide +kernel
theorem d_Sf_greatest_26 : decode c_Sf_greatest 26 = .ok (.goto (-22), 3) := by decide +kernel
theorem d_Sf_greatest_29 : decode c_Sf_greatest 29 = .ok (.iload_n 1, 1) := by decide +kernel
theorem d_Sf_greatest_30 : decode c_Sf_greatest 30 = .ok (.ireturn, 1) := by decide +kernel
theorem d_Sg_init_0 : decode c_Sg_init 0 = .ok (.aload_n 0, 1) := by decide +kernel
theorem d_Sg_init_1 : decode c_Sg_init 1 = .ok (.invokespecial 3, 3) := by decide +kernel
theorem d_Sg_init_4 : decode c_Sg_init 4 = .ok (.aload_n 0, 1) := by decide +kernel
theorem d_Sg_init_5 : decode c_Sg_init 5 = .ok (.bipush 40, 2) := by decide +kernel
theorem d_Sg_init_7 : decode c_Sg_init 7 = .ok (.newarray .char, 2) := by decide +kernel
theorem d_Sg_init_9 : decode c_Sg_init 9 = .ok (.putfield 9, 3) := by decide +kernel
theorem d_Sg_init_12 : decode c_Sg_init 12 = .ok (.return_, 1) := by decide +kernel
theorem d_Sg_collect_0 : decode c_Sg_collect 0 = .ok (.iload_n 1, 1) := by decide +kernel
theorem d_Sg_collect_1 : decode c_Sg_collect 1 = .ok (.bipush 32, 2) := by decide +kernel
theorem d_Sg_collect_3 : decode c_Sg_collect 3 = .ok (.if_icmp .lt 18, 3) := by decide +kernel
theorem d_Sg_collect_6 : decode c_Sg_collect 6 = .ok (.iload_n 1, 1) := by decide +kernel
theorem d_Sg_collect_7 : decode c_Sg_collect 7 = .ok (.bipush 126, 2) := by decide +kernel
theorem d_Sg_collect_9 : decode c_Sg_collect 9 = .ok (.if_icmp .gt 12, 3) := by decide +kernel
theorem d_Sg_collect_12 : decode c_Sg_collect 12 = .ok (.aload_n 0, 1) := by decide +kernel
theorem d_Sg_collect_13 : decode c_Sg_collect 13 = .ok (.getfield 15, 3) := by decide +kernel
theorem d_Sg_collect_16 : decode c_Sg_collect 16 = .ok (.bipush 40, 2) := by decide +kernel
theorem d_Sg_collect_18 : decode c_Sg_collect 18 = .ok (.if_icmp .lt 5, 3) := by decide +kernel
theorem d_Sg_collect_21 : decode c_Sg_collect 21 = .ok (.iconst 0, 1) := by decide +kernel
theorem d_Sg_collect_22 : decode c_Sg_collect 22 = .ok (.ireturn, 1) := by decide +kernel
theorem d_Sg_collect_23 : decode c_Sg_collect 23 = .ok (.aload_n 0, 1) := by decide +kernel
theorem d_Sg_collect_24 : decode c_Sg_collect 24 = .ok (.getfield 9, 3) := by decide +kernel
theorem d_Sg_collect_27 : decode c_Sg_collect 27 = .ok (.aload_n 0, 1) := by decide +kernel
theorem d_Sg_collect_28 : decode c_Sg_collect 28 = .ok (.getfield 15, 3) := by decide +kernel
theorem d_Sg_collect_31 : decode c_Sg_collect 31 = .ok (.iload_n 1, 1) := by decide +kernel
theorem d_Sg_collect_32 : decode c_Sg_collect 32 = .ok (.i2c, 1) := by decide +kernel
theorem d_Sg_collect_33 : decode c_Sg_collect 33 = .ok (.castore, 1) := by decide +kernel
theorem d_Sg_collect_34 : decode c_Sg_collect 34 = .ok (.aload_n 0, 1) := by decide +kernel
theorem d_Sg_collect_35 : decode c_Sg_collect 35 = .ok (.dup, 1) := by decide +kernel
theorem d_Sg_collect_36 : decode c_Sg_collect 36 = .ok (.getfield 15, 3) := by decide +kernel
theorem d_Sg_collect_39 : decode c_Sg_collect 39 = .ok (.iconst 1, 1) := by decide +kernel
theorem d_Sg_collect_40 : decode c_Sg_collect 40 = .ok (.iadd, 1) := by decide +kernel
theorem d_Sg_collect_41 : decode c_Sg_collect 41 = .ok (.putfield 15, 3) := by decide +kernel
theorem d_Sg_collect_44 : decode c_Sg_collect 44 = .ok (.iconst 1, 1) := by decide +kernel
theorem d_Sg_collect_45 : decode c_Sg_collect 45 = .ok (.ireturn, 1) := by decide +kernel
theorem d_Sg_firstWrong_0 : decode c_Sg_firstWrong 0 = .ok (.iconst 0, 1) := by decide +kernel
theorem d_Sg_firstWrong_1 : decode c_Sg_firstWrong 1 = .ok (.istore_n 1, 1) := by decide +kernel
theorem d_Sg_firstWrong_2 : decode c_Sg_firstWrong 2 = .ok (.iload_n 1, 1) := by decide +kernel
theorem d_Sg_firstWrong_3 : decode c_Sg_firstWrong 3 = .ok (.aload_n 0, 1) := by decide +kernel
theorem d_Sg_firstWrong_4 : decode c_Sg_firstWrong 4 = .ok (.getfield 15, 3) := by decide +kernel
theorem d_Sg_firstWrong_7 : decode c_Sg_firstWrong 7 = .ok (.if_icmp .ge 54, 3) := by decide +kernel
theorem d_Sg_firstWrong_10 : decode c_Sg_firstWrong 10 = .ok (.iload_n 1, 1) := by decide +kernel
theorem d_Sg_firstWrong_11 : decode c_Sg_firstWrong 11 = .ok (.iconst 2, 1) := by decide +kernel
theorem d_Sg_firstWrong_12 : decode c_Sg_firstWrong 12 = .ok (.irem, 1) := by decide +kernel
theorem d_Sg_firstWrong_13 : decode c_Sg_firstWrong 13 = .ok (.ifCond .ne 18, 3) := by decide +kernel
theorem d_Sg_firstWrong_16 : decode c_Sg_firstWrong 16 = .ok (.aload_n 0, 1) := by decide +kernel
theorem d_Sg_firstWrong_17 : decode c_Sg_firstWrong 17 = .ok (.getfield 9, 3) := by decide +kernel
theorem d_Sg_firstWrong_20 : decode c_Sg_firstWrong 20 = .ok (.iload_n 1, 1) := by decide +kernel
theorem d_Sg_firstWrong_21 : decode c_Sg_firstWrong 21 = .ok (.caload, 1) := by decide +kernel
theorem d_Sg_firstWrong_22 : decode c_Sg_firstWrong 22 = .ok (.iload_n 1, 1) := by decide +kernel
theorem d_Sg_firstWrong_23 : decode c_Sg_firstWrong 23 = .ok (.iconst 2, 1) := by decide +kernel
theorem d_Sg_firstWrong_24 : decode c_Sg_firstWrong 24 = .ok (.idiv, 1) := by decide +kernel
theorem d_Sg_firstWrong_25 : decode c_Sg_firstWrong 25 = .ok (.invokestatic 19, 3) := by decide +kernel
theorem d_Sg_firstWrong_28 : decode c_Sg_firstWrong 28 = .ok (.goto 20, 3) := by decide +kernel
theorem d_Sg_firstWrong_31 : decode c_Sg_firstWrong 31 = .ok (.aload_n 0, 1) := by decide +kernel
theorem d_Sg_firstWrong_32 : decode c_Sg_firstWrong 32 = .ok (.getfield 9, 3) := by decide +kernel
theorem d_Sg_firstWrong_35 : decode c_Sg_firstWrong 35 = .ok (.iload_n 1, 1) := by decide +kernel
theorem d_Sg_firstWrong_36 : decode c_Sg_firstWrong 36 = .ok (.caload, 1) := by decide +kernel
theorem d_Sg_firstWrong_37 : decode c_Sg_firstWrong 37 = .ok (.invokestatic 23, 3) := by decide +kernel
theorem d_Sg_firstWrong_40 : decode c_Sg_firstWrong 40 = .ok (.ifCond .le 7, 3) := by decide +kernel
theorem d_Sg_firstWrong_43 : decode c_Sg_firstWrong 43 = .ok (.iconst 1, 1) := by decide +kernel
theorem d_Sg_firstWrong_44 : decode c_Sg_firstWrong 44 = .ok (.goto 4, 3) := by decide +kernel
theorem d_Sg_firstWrong_47 : decode c_Sg_firstWrong 47 = .ok (.iconst 0, 1) := by decide +kernel
theorem d_Sg_firstWrong_48 : decode c_Sg_firstWrong 48 = .ok (.istore_n 2, 1) := by decide +kernel
theorem d_Sg_firstWrong_49 : decode c_Sg_firstWrong 49 = .ok (.iload_n 2, 1) := by decide +kernel
theorem d_Sg_firstWrong_50 : decode c_Sg_firstWrong 50 = .ok (.ifCond .ne 5, 3) := by decide +kernel
theorem d_Sg_firstWrong_53 : decode c_Sg_firstWrong 53 = .ok (.iload_n 1, 1) := by decide +kernel
theorem d_Sg_firstWrong_54 : decode c_Sg_firstWrong 54 = .ok (.ireturn, 1) := by decide +kernel
theorem d_Sg_firstWrong_55 : decode c_Sg_firstWrong 55 = .ok (.iinc 1 1, 3) := by decide +kernel
theorem d_Sg_firstWrong_58 : decode c_Sg_firstWrong 58 = .ok (.goto (-56), 3) := by decide +kernel
theorem d_Sg_firstWrong_61 : decode c_Sg_firstWrong 61 = .ok (.aload_n 0, 1) := by decide +kernel
theorem d_Sg_firstWrong_62 : decode c_Sg_firstWrong 62 = .ok (.getfield 15, 3) := by decide +kernel
theorem d_Sg_firstWrong_65 : decode c_Sg_firstWrong 65 = .ok (.iconst 2, 1) := by decide +kernel
theorem d_Sg_firstWrong_66 : decode c_Sg_firstWrong 66 = .ok (.irem, 1) := by decide +kernel
theorem d_Sg_firstWrong_67 : decode c_Sg_firstWrong 67 = .ok (.ifCond .ne 10, 3) := by decide +kernel
theorem d_Sg_firstWrong_70 : decode c_Sg_firstWrong 70 = .ok (.aload_n 0, 1) := by decide +kernel
theorem d_Sg_firstWrong_71 : decode c_Sg_firstWrong 71 = .ok (.getfield 15, 3) := by decide +kernel
theorem d_Sg_firstWrong_74 : decode c_Sg_firstWrong 74 = .ok (.goto 4, 3) := by decide +kernel
theorem d_Sg_firstWrong_77 : decode c_Sg_firstWrong 77 = .ok (.iconst (-1), 1) := by decide +kernel
theorem d_Sg_firstWrong_78 : decode c_Sg_firstWrong 78 = .ok (.ireturn, 1) := by decide +kernel
theorem d_Sg_toShape_0 : decode c_Sg_toShape 0 = .ok (.aload_n 0, 1) := by decide +kernel
theorem d_Sg_toShape_1 : decode c_Sg_toShape 1 = .ok (.getfield 15, 3) := by decide +kernel
theorem d_Sg_toShape_4 : decode c_Sg_toShape 4 = .ok (.newarray .char, 2) := by decide +kernel
theorem d_Sg_toShape_6 : decode c_Sg_toShape 6 = .ok (.astore_n 1, 1) := by decide +kernel
theorem d_Sg_toShape_7 : decode c_Sg_toShape 7 = .ok (.iconst 0, 1) := by decide +kernel
theorem d_Sg_toShape_8 : decode c_Sg_toShape 8 = .ok (.istore_n 2, 1) := by decide +kernel
theorem d_Sg_toShape_9 : decode c_Sg_toShape 9 = .ok (.iconst 0, 1) := by decide +kernel
theorem d_Sg_toShape_10 : decode c_Sg_toShape 10 = .ok (.istore_n 3, 1) := by decide +kernel
theorem d_Sg_toShape_11 : decode c_Sg_toShape 11 = .ok (.iload_n 3, 1) := by decide +kernel
theorem d_Sg_toShape_12 : decode c_Sg_toShape 12 = .ok (.aload_n 0, 1) := by decide +kernel
theorem d_Sg_toShape_13 : decode c_Sg_toShape 13 = .ok (.getfield 15, 3) := by decide +kernel
theorem d_Sg_toShape_16 : decode c_Sg_toShape 16 = .ok (.if_icmp .ge 40, 3) := by decide +kernel
theorem d_Sg_toShape_19 : decode c_Sg_toShape 19 = .ok (.aload_n 1, 1) := by decide +kernel
theorem d_Sg_toShape_20 : decode c_Sg_toShape 20 = .ok (.iload_n 3, 1) := by decide +kernel
theorem d_Sg_toShape_21 : decode c_Sg_toShape 21 = .ok (.aload_n 0, 1) := by decide +kernel
theorem d_Sg_toShape_22 : decode c_Sg_toShape 22 = .ok (.getfield 9, 3) := by decide +kernel
theorem d_Sg_toShape_25 : decode c_Sg_toShape 25 = .ok (.iload_n 3, 1) := by decide +kernel
theorem d_Sg_toShape_26 : decode c_Sg_toShape 26 = .ok (.caload, 1) := by decide +kernel
theorem d_Sg_toShape_27 : decode c_Sg_toShape 27 = .ok (.castore, 1) := by decide +kernel
theorem d_Sg_toShape_28 : decode c_Sg_toShape 28 = .ok (.iload_n 2, 1) := by decide +kernel
theorem d_Sg_toShape_29 : decode c_Sg_toShape 29 = .ok (.iload_n 3, 1) := by decide +kernel
theorem d_Sg_toShape_30 : decode c_Sg_toShape 30 = .ok (.iconst 2, 1) := by decide +kernel
theorem d_Sg_toShape_31 : decode c_Sg_toShape 31 = .ok (.irem, 1) := by decide +kernel
theorem d_Sg_toShape_32 : decode c_Sg_toShape 32 = .ok (.ifCond .ne 7, 3) := by decide +kernel
theorem d_Sg_toShape_35 : decode c_Sg_toShape 35 = .ok (.iconst 0, 1) := by decide +kernel
theorem d_Sg_toShape_36 : decode c_Sg_toShape 36 = .ok (.goto 12, 3) := by decide +kernel
theorem d_Sg_toShape_39 : decode c_Sg_toShape 39 = .ok (.aload_n 0, 1) := by decide +kernel
theorem d_Sg_toShape_40 : decode c_Sg_toShape 40 = .ok (.getfield 9, 3) := by decide +kernel
theorem d_Sg_toShape_43 : decode c_Sg_toShape 43 = .ok (.iload_n 3, 1) := by decide +kernel
theorem d_Sg_toShape_44 : decode c_Sg_toShape 44 = .ok (.caload, 1) := by decide +kernel
theorem d_Sg_toShape_45 : decode c_Sg_toShape 45 = .ok (.invokestatic 23, 3) := by decide +kernel
theorem d_Sg_toShape_48 : decode c_Sg_toShape 48 = .ok (.iadd, 1) := by decide +kernel
theorem d_Sg_toShape_49 : decode c_Sg_toShape 49 = .ok (.istore_n 2, 1) := by decide +kernel
theorem d_Sg_toShape_50 : decode c_Sg_toShape 50 = .ok (.iinc 3 1, 3) := by decide +kernel
theorem d_Sg_toShape_53 : decode c_Sg_toShape 53 = .ok (.goto (-42), 3) := by decide +kernel
theorem d_Sg_toShape_56 : decode c_Sg_toShape 56 = .ok (.new 27, 3) := by decide +kernel
theorem d_Sg_toShape_59 : decode c_Sg_toShape 59 = .ok (.dup, 1) := by decide +kernel
theorem d_Sg_toShape_60 : decode c_Sg_toShape 60 = .ok (.aload_n 1, 1) := by decide +kernel
theorem d_Sg_toShape_61 : decode c_Sg_toShape 61 = .ok (.iload_n 2, 1) := by decide +kernel
theorem d_Sg_toShape_62 : decode c_Sg_toShape 62 = .ok (.invokespecial 29, 3) := by decide +kernel
theorem d_Sg_toShape_65 : decode c_Sg_toShape 65 = .ok (.areturn, 1) := by decide +kernel
theorem d_Sg_isLeg_0 : decode c_Sg_isLeg 0 = .ok (.iload_n 1, 1) := by decide +kernel
theorem d_Sg_isLeg_1 : decode c_Sg_isLeg 1 = .ok (.bipush 6, 2) := by decide +kernel
theorem d_Sg_isLeg_3 : decode c_Sg_isLeg 3 = .ok (.if_icmp .ge 15, 3) := by decide +kernel
theorem d_Sg_isLeg_6 : decode c_Sg_isLeg 6 = .ok (.iload_n 0, 1) := by decide +kernel
theorem d_Sg_isLeg_7 : decode c_Sg_isLeg 7 = .ok (.bipush 65, 2) := by decide +kernel
theorem d_Sg_isLeg_9 : decode c_Sg_isLeg 9 = .ok (.iload_n 1, 1) := by decide +kernel
theorem d_Sg_isLeg_10 : decode c_Sg_isLeg 10 = .ok (.iadd, 1) := by decide +kernel
theorem d_Sg_isLeg_11 : decode c_Sg_isLeg 11 = .ok (.if_icmp .ne 7, 3) := by decide +kernel
theorem d_Sg_isLeg_14 : decode c_Sg_isLeg 14 = .ok (.iconst 1, 1) := by decide +kernel
theorem d_Sg_isLeg_15 : decode c_Sg_isLeg 15 = .ok (.goto 4, 3) := by decide +kernel
theorem d_Sg_isLeg_18 : decode c_Sg_isLeg 18 = .ok (.iconst 0, 1) := by decide +kernel
theorem d_Sg_isLeg_19 : decode c_Sg_isLeg 19 = .ok (.ireturn, 1) := by decide +kernel
theorem d_Sg_quartersOf_0 : decode c_Sg_quartersOf 0 = .ok (.iload_n 0, 1) := by decide +kernel
theorem d_Sg_quartersOf_1 : decode c_Sg_quartersOf 1 = .ok (.lookupswitch 39 #[(76, 35), (82, 35), (85, 37)], 35) := by decide +kernel
theorem d_Sg_quartersOf_36 : decode c_Sg_quartersOf 36 = .ok (.iconst 1, 1) := by decide +kernel
theorem d_Sg_quartersOf_37 : decode c_Sg_quartersOf 37 = .ok (.ireturn, 1) := by decide +kernel
theorem d_Sg_quartersOf_38 : decode c_Sg_quartersOf 38 = .ok (.iconst 2, 1) := by decide +kernel
theorem d_Sg_quartersOf_39 : decode c_Sg_quartersOf 39 = .ok (.ireturn, 1) := by decide +kernel
theorem d_Sg_quartersOf_40 : decode c_Sg_quartersOf 40 = .ok (.iconst 0, 1) := by decide +kernel
theorem d_Sg_quartersOf_41 : decode c_Sg_quartersOf 41 = .ok (.ireturn, 1) := by decide +kernel
theorem d_Tr_init_0 : decode c_Tr_init 0 = .ok (.aload_n 0, 1) := by decide +kernel
theorem d_Tr_init_1 : decode c_Tr_init 1 = .ok (.invokespecial 3, 3) := by decide +kernel
theorem d_Tr_init_4 : decode c_Tr_init 4 = .ok (.aload_n 0, 1) := by decide +kernel
theorem d_Tr_init_5 : decode c_Tr_init 5 = .ok (.bipush 11, 2) := by decide +kernel
theorem d_Tr_init_7 : decode c_Tr_init 7 = .ok (.newarray .int, 2) := by decide +kernel
theorem d_Tr_init_9 : decode c_Tr_init 9 = .ok (.putfield 11, 3) := by decide +kernel
theorem d_Tr_init_12 : decode c_Tr_init 12 = .ok (.aload_n 0, 1) := by decide +kernel
theorem d_Tr_init_13 : decode c_Tr_init 13 = .ok (.bipush 11, 2) := by decide +kernel
theorem d_Tr_init_15 : decode c_Tr_init 15 = .ok (.newarray .int, 2) := by decide +kernel
theorem d_Tr_init_17 : decode c_Tr_init 17 = .ok (.putfield 15, 3) := by decide +kernel
theorem d_Tr_init_20 : decode c_Tr_init 20 = .ok (.aload_n 0, 1) := by decide +kernel
theorem d_Tr_init_21 : decode c_Tr_init 21 = .ok (.bipush 11, 2) := by decide +kernel
theorem d_Tr_init_23 : decode c_Tr_init 23 = .ok (.newarray .int, 2) := by decide +kernel
theorem d_Tr_init_25 : decode c_Tr_init 25 = .ok (.putfield 18, 3) := by decide +kernel
theorem d_Tr_init_28 : decode c_Tr_init 28 = .ok (.aload_n 0, 1) := by decide +kernel
theorem d_Tr_init_29 : decode c_Tr_init 29 = .ok (.bipush 11, 2) := by decide +kernel
theorem d_Tr_init_31 : decode c_Tr_init 31 = .ok (.newarray .int, 2) := by decide +kernel
theorem d_Tr_init_33 : decode c_Tr_init 33 = .ok (.putfield 21, 3) := by decide +kernel
theorem d_Tr_init_36 : decode c_Tr_init 36 = .ok (.aload_n 0, 1) := by decide +kernel
theorem d_Tr_init_37 : decode c_Tr_init 37 = .ok (.bipush 11, 2) := by decide +kernel
theorem d_Tr_init_39 : decode c_Tr_init 39 = .ok (.newarray .boolean, 2) := by decide +kernel
theorem d_Tr_init_41 : decode c_Tr_init 41 = .ok (.putfield 24, 3) := by decide +kernel
theorem d_Tr_init_44 : decode c_Tr_init 44 = .ok (.return_, 1) := by decide +kernel
theorem d_Tr_follow_0 : decode c_Tr_follow 0 = .ok (.aload_n 0, 1) := by decide +kernel
theorem d_Tr_follow_1 : decode c_Tr_follow 1 = .ok (.iconst 0, 1) := by decide +kernel
theorem d_Tr_follow_2 : decode c_Tr_follow 2 = .ok (.putfield 28, 3) := by decide +kernel
theorem d_Tr_follow_5 : decode c_Tr_follow 5 = .ok (.aload_n 0, 1) := by decide +kernel
theorem d_Tr_follow_6 : decode c_Tr_follow 6 = .ok (.aload_n 1, 1) := by decide +kernel
theorem d_Tr_follow_7 : decode c_Tr_follow 7 = .ok (.getfield 32, 3) := by decide +kernel
theorem d_Tr_follow_10 : decode c_Tr_follow 10 = .ok (.putfield 37, 3) := by decide +kernel
theorem d_Tr_follow_13 : decode c_Tr_follow 13 = .ok (.aload_n 0, 1) := by decide +kernel
theorem d_Tr_follow_14 : decode c_Tr_follow 14 = .ok (.aload_n 1, 1) := by decide +kernel
theorem d_Tr_follow_15 : decode c_Tr_follow 15 = .ok (.getfield 38, 3) := by decide +kernel
theorem d_Tr_follow_18 : decode c_Tr_follow 18 = .ok (.putfield 41, 3) := by decide +kernel
theorem d_Tr_follow_21 : decode c_Tr_follow 21 = .ok (.iconst 1, 1) := by decide +kernel
theorem d_Tr_follow_22 : decode c_Tr_follow 22 = .ok (.istore_n 2, 1) := by decide +kernel
theorem d_Tr_follow_23 : decode c_Tr_follow 23 = .ok (.iconst 0, 1) := by decide +kernel
theorem d_Tr_follow_24 : decode c_Tr_follow 24 = .ok (.istore_n 3, 1) := by decide +kernel
theorem d_Tr_follow_25 : decode c_Tr_follow 25 = .ok (.iconst 0, 1) := by decide +kernel
theorem d_Tr_follow_26 : decode c_Tr_follow 26 = .ok (.istore 4, 2) := by decide +kernel
theorem d_Tr_follow_28 : decode c_Tr_follow 28 = .ok (.iload 4, 2) := by decide +kernel
theorem d_Tr_follow_30 : decode c_Tr_follow 30 = .ok (.aload_n 1, 1) := by decide +kernel
theorem d_Tr_follow_31 : decode c_Tr_follow 31 = .ok (.getfield 42, 3) := by decide +kernel
theorem d_Tr_follow_34 : decode c_Tr_follow 34 = .ok (.getfield 46, 3) := by decide +kernel
theorem d_Tr_follow_37 : decode c_Tr_follow 37 = .ok (.if_icmp .ge 135, 3) := by decide +kernel
theorem d_Tr_follow_40 : decode c_Tr_follow 40 = .ok (.iload_n 2, 1) := by decide +kernel
theorem d_Tr_follow_41 : decode c_Tr_follow 41 = .ok (.istore 5, 2) := by decide +kernel
theorem d_Tr_follow_43 : decode c_Tr_follow 43 = .ok (.iload_n 3, 1) := by decide +kernel
theorem d_Tr_follow_44 : decode c_Tr_follow 44 = .ok (.istore 6, 2) := by decide +kernel
theorem d_Tr_follow_46 : decode c_Tr_follow 46 = .ok (.aload_n 1, 1) := by decide +kernel
theorem d_Tr_follow_47 : decode c_Tr_follow 47 = .ok (.getfield 42, 3) := by decide +kernel
theorem d_Tr_follow_50 : decode c_Tr_follow 50 = .ok (.iload 4, 2) := by decide +kernel
theorem d_Tr_follow_52 : decode c_Tr_follow 52 = .ok (.invokevirtual 51, 3) := by decide +kernel
theorem d_Tr_follow_55 : decode c_Tr_follow 55 = .ok (.lookupswitch 88 #[(76, 33), (82, 43), (85, 53)], 33) := by decide +kernel
theorem d_Tr_follow_88 : decode c_Tr_follow 88 = .ok (.iload 6, 2) := by decide +kernel
theorem d_Tr_follow_90 : decode c_Tr_follow 90 = .ok (.ineg, 1) := by decide +kernel
theorem d_Tr_follow_91 : decode c_Tr_follow 91 = .ok (.istore_n 2, 1) := by decide +kernel
theorem d_Tr_follow_92 : decode c_Tr_follow 92 = .ok (.iload 5, 2) := by decide +kernel
theorem d_Tr_follow_94 : decode c_Tr_follow 94 = .ok (.istore_n 3, 1) := by decide +kernel
theorem d_Tr_follow_95 : decode c_Tr_follow 95 = .ok (.goto 48, 3) := by decide +kernel
theorem d_Tr_follow_98 : decode c_Tr_follow 98 = .ok (.iload 6, 2) := by decide +kernel
theorem d_Tr_follow_100 : decode c_Tr_follow 100 = .ok (.istore_n 2, 1) := by decide +kernel
theorem d_Tr_follow_101 : decode c_Tr_follow 101 = .ok (.iload 5, 2) := by decide +kernel
theorem d_Tr_follow_103 : decode c_Tr_follow 103 = .ok (.ineg, 1) := by decide +kernel
theorem d_Tr_follow_104 : decode c_Tr_follow 104 = .ok (.istore_n 3, 1) := by decide +kernel
theorem d_Tr_follow_105 : decode c_Tr_follow 105 = .ok (.goto 38, 3) := by decide +kernel
theorem d_Tr_follow_108 : decode c_Tr_follow 108 = .ok (.iconst 3, 1) := by decide +kernel
theorem d_Tr_follow_109 : decode c_Tr_follow 109 = .ok (.aload_n 1, 1) := by decide +kernel
theorem d_Tr_follow_110 : decode c_Tr_follow 110 = .ok (.getfield 55, 3) := by decide +kernel
theorem d_Tr_follow_113 : decode c_Tr_follow 113 = .ok (.imul, 1) := by decide +kernel
theorem d_Tr_follow_114 : decode c_Tr_follow 114 = .ok (.istore 7, 2) := by decide +kernel
theorem d_Tr_follow_116 : decode c_Tr_follow 116 = .ok (.aload_n 0, 1) := by decide +kernel
theorem d_Tr_follow_117 : decode c_Tr_follow 117 = .ok (.iload 6, 2) := by decide +kernel
theorem d_Tr_follow_119 : decode c_Tr_follow 119 = .ok (.ineg, 1) := by decide +kernel
theorem d_Tr_follow_120 : decode c_Tr_follow 120 = .ok (.iload 7, 2) := by decide +kernel
theorem d_Tr_follow_122 : decode c_Tr_follow 122 = .ok (.imul, 1) := by decide +kernel
theorem d_Tr_follow_123 : decode c_Tr_follow 123 = .ok (.iload 5, 2) := by decide +kernel
theorem d_Tr_follow_125 : decode c_Tr_follow 125 = .ok (.iload 7, 2) := by decide +kernel
theorem d_Tr_follow_127 : decode c_Tr_follow 127 = .ok (.imul, 1) := by decide +kernel
theorem d_Tr_follow_128 : decode c_Tr_follow 128 = .ok (.iconst 0, 1) := by decide +kernel
theorem d_Tr_follow_129 : decode c_Tr_follow 129 = .ok (.invokevirtual 58, 3) := by decide +kernel
theorem d_Tr_follow_132 : decode c_Tr_follow 132 = .ok (.iload 5, 2) := by decide +kernel
theorem d_Tr_follow_134 : decode c_Tr_follow 134 = .ok (.ineg, 1) := by decide +kernel
theorem d_Tr_follow_135 : decode c_Tr_follow 135 = .ok (.istore_n 2, 1) := by decide +kernel
theorem d_Tr_follow_136 : decode c_Tr_follow 136 = .ok (.iload 6, 2) := by decide +kernel
theorem d_Tr_follow_138 : decode c_Tr_follow 138 = .ok (.ineg, 1) := by decide +kernel
theorem d_Tr_follow_139 : decode c_Tr_follow 139 = .ok (.istore_n 3, 1) := by decide +kernel
theorem d_Tr_follow_140 : decode c_Tr_follow 140 = .ok (.goto 3, 3) := by decide +kernel
theorem d_Tr_follow_143 : decode c_Tr_follow 143 = .ok (.aload_n 0, 1) := by decide +kernel
theorem d_Tr_follow_144 : decode c_Tr_follow 144 = .ok (.iload_n 2, 1) := by decide +kernel
theorem d_Tr_follow_145 : decode c_Tr_follow 145 = .ok (.aload_n 1, 1) := by decide +kernel
theorem d_Tr_follow_146 : decode c_Tr_follow 146 = .ok (.getfield 62, 3) := by decide +kernel
theorem d_Tr_follow_149 : decode c_Tr_follow 149 = .ok (.iload 4, 2) := by decide +kernel
theorem d_Tr_follow_151 : decode c_Tr_follow 151 = .ok (.iaload, 1) := by decide +kernel
theorem d_Tr_follow_152 : decode c_Tr_follow 152 = .ok (.imul, 1) := by decide +kernel
theorem d_Tr_follow_153 : decode c_Tr_follow 153 = .ok (.iload_n 3, 1) := by decide +kernel
theorem d_Tr_follow_154 : decode c_Tr_follow 154 = .ok (.aload_n 1, 1) := by decide +kernel
theorem d_Tr_follow_155 : decode c_Tr_follow 155 = .ok (.getfield 62, 3) := by decide +kernel
theorem d_Tr_follow_158 : decode c_Tr_follow 158 = .ok (.iload 4, 2) := by decide +kernel
theorem d_Tr_follow_160 : decode c_Tr_follow 160 = .ok (.iaload, 1) := by decide +kernel
theorem d_Tr_follow_161 : decode c_Tr_follow 161 = .ok (.imul, 1) := by decide +kernel
theorem d_Tr_follow_162 : decode c_Tr_follow 162 = .ok (.iconst 1, 1) := by decide +kernel
theorem d_Tr_follow_163 : decode c_Tr_follow 163 = .ok (.invokevirtual 58, 3) := by decide +kernel
theorem d_Tr_follow_166 : decode c_Tr_follow 166 = .ok (.iinc 4 1, 3) := by decide +kernel
theorem d_Tr_follow_169 : decode c_Tr_follow 169 = .ok (.goto (-141), 3) := by decide +kernel
theorem d_Tr_follow_172 : decode c_Tr_follow 172 = .ok (.return_, 1) := by decide +kernel
theorem d_Tr_go_0 : decode c_Tr_go 0 = .ok (.aload_n 0, 1) := by decide +kernel
theorem d_Tr_go_1 : decode c_Tr_go 1 = .ok (.getfield 28, 3) := by decide +kernel
theorem d_Tr_go_4 : decode c_Tr_go 4 = .ok (.bipush 11, 2) := by decide +kernel
theorem d_Tr_go_6 : decode c_Tr_go 6 = .ok (.if_icmp .lt 4, 3) := by decide +kernel
theorem d_Tr_go_9 : decode c_Tr_go 9 = .ok (.return_, 1) := by decide +kernel
theorem d_Tr_go_10 : decode c_Tr_go 10 = .ok (.aload_n 0, 1) := by decide +kernel
theorem d_Tr_go_11 : decode c_Tr_go 11 = .ok (.getfield 11, 3) := by decide +kernel
theorem d_Tr_go_14 : decode c_Tr_go 14 = .ok (.aload_n 0, 1) := by decide +kernel
theorem d_Tr_go_15 : decode c_Tr_go 15 = .ok (.getfield 28, 3) := by decide +kernel
theorem d_Tr_go_18 : decode c_Tr_go 18 = .ok (.aload_n 0, 1) := by decide +kernel
theorem d_Tr_go_19 : decode c_Tr_go 19 = .ok (.getfield 37, 3) := by decide +kernel
theorem d_Tr_go_22 : decode c_Tr_go 22 = .ok (.iastore, 1) := by decide +kernel
theorem d_Tr_go_23 : decode c_Tr_go 23 = .ok (.aload_n 0, 1) := by decide +kernel
theorem d_Tr_go_24 : decode c_Tr_go 24 = .ok (.getfield 15, 3) := by decide +kernel
theorem d_Tr_go_27 : decode c_Tr_go 27 = .ok (.aload_n 0, 1) := by decide +kernel
theorem d_Tr_go_28 : decode c_Tr_go 28 = .ok (.getfield 28, 3) := by decide +kernel
theorem d_Tr_go_31 : decode c_Tr_go 31 = .ok (.aload_n 0, 1) := by decide +kernel
theorem d_Tr_go_32 : decode c_Tr_go 32 = .ok (.getfield 41, 3) := by decide +kernel
theorem d_Tr_go_35 : decode c_Tr_go 35 = .ok (.iastore, 1) := by decide +kernel
theorem d_Tr_go_36 : decode c_Tr_go 36 = .ok (.aload_n 0, 1) := by decide +kernel
theorem d_Tr_go_37 : decode c_Tr_go 37 = .ok (.getfield 18, 3) := by decide +kernel
theorem d_Tr_go_40 : decode c_Tr_go 40 = .ok (.aload_n 0, 1) := by decide +kernel
theorem d_Tr_go_41 : decode c_Tr_go 41 = .ok (.getfield 28, 3) := by decide +kernel
theorem d_Tr_go_44 : decode c_Tr_go 44 = .ok (.iload_n 1, 1) := by decide +kernel
theorem d_Tr_go_45 : decode c_Tr_go 45 = .ok (.iastore, 1) := by decide +kernel
theorem d_Tr_go_46 : decode c_Tr_go 46 = .ok (.aload_n 0, 1) := by decide +kernel
theorem d_Tr_go_47 : decode c_Tr_go 47 = .ok (.getfield 21, 3) := by decide +kernel
theorem d_Tr_go_50 : decode c_Tr_go 50 = .ok (.aload_n 0, 1) := by decide +kernel
theorem d_Tr_go_51 : decode c_Tr_go 51 = .ok (.getfield 28, 3) := by decide +kernel
theorem d_Tr_go_54 : decode c_Tr_go 54 = .ok (.iload_n 2, 1) := by decide +kernel
theorem d_Tr_go_55 : decode c_Tr_go 55 = .ok (.iastore, 1) := by decide +kernel
theorem d_Tr_go_56 : decode c_Tr_go 56 = .ok (.aload_n 0, 1) := by decide +kernel
theorem d_Tr_go_57 : decode c_Tr_go 57 = .ok (.getfield 24, 3) := by decide +kernel
theorem d_Tr_go_60 : decode c_Tr_go 60 = .ok (.aload_n 0, 1) := by decide +kernel
theorem d_Tr_go_61 : decode c_Tr_go 61 = .ok (.getfield 28, 3) := by decide +kernel
theorem d_Tr_go_64 : decode c_Tr_go 64 = .ok (.iload_n 3, 1) := by decide +kernel
theorem d_Tr_go_65 : decode c_Tr_go 65 = .ok (.bastore, 1) := by decide +kernel
theorem d_Tr_go_66 : decode c_Tr_go 66 = .ok (.aload_n 0, 1) := by decide +kernel
theorem d_Tr_go_67 : decode c_Tr_go 67 = .ok (.dup, 1) := by decide +kernel
theorem d_Tr_go_68 : decode c_Tr_go 68 = .ok (.getfield 37, 3) := by decide +kernel
theorem d_Tr_go_71 : decode c_Tr_go 71 = .ok (.iload_n 1, 1) := by decide +kernel
theorem d_Tr_go_72 : decode c_Tr_go 72 = .ok (.iadd, 1) := by decide +kernel
theorem d_Tr_go_73 : decode c_Tr_go 73 = .ok (.putfield 37, 3) := by decide +kernel
theorem d_Tr_go_76 : decode c_Tr_go 76 = .ok (.aload_n 0, 1) := by decide +kernel
theorem d_Tr_go_77 : decode c_Tr_go 77 = .ok (.dup, 1) := by decide +kernel
theorem d_Tr_go_78 : decode c_Tr_go 78 = .ok (.getfield 41, 3) := by decide +kernel
theorem d_Tr_go_81 : decode c_Tr_go 81 = .ok (.iload_n 2, 1) := by decide +kernel
theorem d_Tr_go_82 : decode c_Tr_go 82 = .ok (.iadd, 1) := by decide +kernel
theorem d_Tr_go_83 : decode c_Tr_go 83 = .ok (.putfield 41, 3) := by decide +kernel
theorem d_Tr_go_86 : decode c_Tr_go 86 = .ok (.aload_n 0, 1) := by decide +kernel
theorem d_Tr_go_87 : decode c_Tr_go 87 = .ok (.dup, 1) := by decide +kernel
theorem d_Tr_go_88 : decode c_Tr_go 88 = .ok (.getfield 28, 3) := by decide +kernel
theorem d_Tr_go_91 : decode c_Tr_go 91 = .ok (.iconst 1, 1) := by decide +kernel
theorem d_Tr_go_92 : decode c_Tr_go 92 = .ok (.iadd, 1) := by decide +kernel
theorem d_Tr_go_93 : decode c_Tr_go 93 = .ok (.putfield 28, 3) := by decide +kernel
theorem d_Tr_go_96 : decode c_Tr_go 96 = .ok (.return_, 1) := by decide +kernel
theorem d_Tr_leastSquareTo_0 : decode c_Tr_leastSquareTo 0 = .ok (.ldc2_w 64, 3) := by decide +kernel
theorem d_Tr_leastSquareTo_3 : decode c_Tr_leastSquareTo 3 = .ok (.lstore_n 2, 1) := by decide +kernel
theorem d_Tr_leastSquareTo_4 : decode c_Tr_leastSquareTo 4 = .ok (.iconst 0, 1) := by decide +kernel
theorem d_Tr_leastSquareTo_5 : decode c_Tr_leastSquareTo 5 = .ok (.istore 4, 2) := by decide +kernel
theorem d_Tr_leastSquareTo_7 : decode c_Tr_leastSquareTo 7 = .ok (.iload 4, 2) := by decide +kernel
theorem d_Tr_leastSquareTo_9 : decode c_Tr_leastSquareTo 9 = .ok (.aload_n 0, 1) := by decide +kernel
theorem d_Tr_leastSquareTo_10 : decode c_Tr_leastSquareTo 10 = .ok (.getfield 28, 3) := by decide +kernel
theorem d_Tr_leastSquareTo_13 : decode c_Tr_leastSquareTo 13 = .ok (.if_icmp .ge 131, 3) := by decide +kernel
theorem d_Tr_leastSquareTo_16 : decode c_Tr_leastSquareTo 16 = .ok (.iconst 0, 1) := by decide +kernel
theorem d_Tr_leastSquareTo_17 : decode c_Tr_leastSquareTo 17 = .ok (.istore 5, 2) := by decide +kernel
theorem d_Tr_leastSquareTo_19 : decode c_Tr_leastSquareTo 19 = .ok (.iload 5, 2) := by decide +kernel
theorem d_Tr_leastSquareTo_21 : decode c_Tr_leastSquareTo 21 = .ok (.aload_n 1, 1) := by decide +kernel
theorem d_Tr_leastSquareTo_22 : decode c_Tr_leastSquareTo 22 = .ok (.getfield 28, 3) := by decide +kernel
theorem d_Tr_leastSquareTo_25 : decode c_Tr_leastSquareTo 25 = .ok (.if_icmp .ge 113, 3) := by decide +kernel
theorem d_Tr_leastSquareTo_28 : decode c_Tr_leastSquareTo 28 = .ok (.aload_n 0, 1) := by decide +kernel
theorem d_Tr_leastSquareTo_29 : decode c_Tr_leastSquareTo 29 = .ok (.getfield 24, 3) := by decide +kernel
theorem d_Tr_leastSquareTo_32 : decode c_Tr_leastSquareTo 32 = .ok (.iload 4, 2) := by decide +kernel
theorem d_Tr_leastSquareTo_34 : decode c_Tr_leastSquareTo 34 = .ok (.baload, 1) := by decide +kernel
theorem d_Tr_leastSquareTo_35 : decode c_Tr_leastSquareTo 35 = .ok (.ifCond .eq 97, 3) := by decide +kernel
theorem d_Tr_leastSquareTo_38 : decode c_Tr_leastSquareTo 38 = .ok (.aload_n 1, 1) := by decide +kernel
theorem d_Tr_leastSquareTo_39 : decode c_Tr_leastSquareTo 39 = .ok (.getfield 24, 3) := by decide +kernel
theorem d_Tr_leastSquareTo_42 : decode c_Tr_leastSquareTo 42 = .ok (.iload 5, 2) := by decide +kernel
theorem d_Tr_leastSquareTo_44 : decode c_Tr_leastSquareTo 44 = .ok (.baload, 1) := by decide +kernel
theorem d_Tr_leastSquareTo_45 : decode c_Tr_leastSquareTo 45 = .ok (.ifCond .eq 87, 3) := by decide +kernel
theorem d_Tr_leastSquareTo_48 : decode c_Tr_leastSquareTo 48 = .ok (.aload_n 0, 1) := by decide +kernel
theorem d_Tr_leastSquareTo_49 : decode c_Tr_leastSquareTo 49 = .ok (.getfield 11, 3) := by decide +kernel
theorem d_Tr_leastSquareTo_52 : decode c_Tr_leastSquareTo 52 = .ok (.iload 4, 2) := by decide +kernel
theorem d_Tr_leastSquareTo_54 : decode c_Tr_leastSquareTo 54 = .ok (.iaload, 1) := by decide +kernel
theorem d_Tr_leastSquareTo_55 : decode c_Tr_leastSquareTo 55 = .ok (.aload_n 0, 1) := by decide +kernel
theorem d_Tr_leastSquareTo_56 : decode c_Tr_leastSquareTo 56 = .ok (.getfield 18, 3) := by decide +kernel
theorem d_Tr_leastSquareTo_59 : decode c_Tr_leastSquareTo 59 = .ok (.iload 4, 2) := by decide +kernel
theorem d_Tr_leastSquareTo_61 : decode c_Tr_leastSquareTo 61 = .ok (.iaload, 1) := by decide +kernel
theorem d_Tr_leastSquareTo_62 : decode c_Tr_leastSquareTo 62 = .ok (.aload_n 1, 1) := by decide +kernel
theorem d_Tr_leastSquareTo_63 : decode c_Tr_leastSquareTo 63 = .ok (.getfield 11, 3) := by decide +kernel
theorem d_Tr_leastSquareTo_66 : decode c_Tr_leastSquareTo 66 = .ok (.iload 5, 2) := by decide +kernel
theorem d_Tr_leastSquareTo_68 : decode c_Tr_leastSquareTo 68 = .ok (.iaload, 1) := by decide +kernel
theorem d_Tr_leastSquareTo_69 : decode c_Tr_leastSquareTo 69 = .ok (.aload_n 1, 1) := by decide +kernel
theorem d_Tr_leastSquareTo_70 : decode c_Tr_leastSquareTo 70 = .ok (.getfield 18, 3) := by decide +kernel
theorem d_Tr_leastSquareTo_73 : decode c_Tr_leastSquareTo 73 = .ok (.iload 5, 2) := by decide +kernel
theorem d_Tr_leastSquareTo_75 : decode c_Tr_leastSquareTo 75 = .ok (.iaload, 1) := by decide +kernel
theorem d_Tr_leastSquareTo_76 : decode c_Tr_leastSquareTo 76 = .ok (.invokestatic 66, 3) := by decide +kernel
theorem d_Tr_leastSquareTo_79 : decode c_Tr_leastSquareTo 79 = .ok (.i2l, 1) := by decide +kernel
theorem d_Tr_leastSquareTo_80 : decode c_Tr_leastSquareTo 80 = .ok (.lstore 6, 2) := by decide +kernel
theorem d_Tr_leastSquareTo_82 : decode c_Tr_leastSquareTo 82 = .ok (.aload_n 0, 1) := by decide +kernel
theorem d_Tr_leastSquareTo_83 : decode c_Tr_leastSquareTo 83 = .ok (.getfield 15, 3) := by decide +kernel
theorem d_Tr_leastSquareTo_86 : decode c_Tr_leastSquareTo 86 = .ok (.iload 4, 2) := by decide +kernel
theorem d_Tr_leastSquareTo_88 : decode c_Tr_leastSquareTo 88 = .ok (.iaload, 1) := by decide +kernel
theorem d_Tr_leastSquareTo_89 : decode c_Tr_leastSquareTo 89 = .ok (.aload_n 0, 1) := by decide +kernel
theorem d_Tr_leastSquareTo_90 : decode c_Tr_leastSquareTo 90 = .ok (.getfield 21, 3) := by decide +kernel
theorem d_Tr_leastSquareTo_93 : decode c_Tr_leastSquareTo 93 = .ok (.iload 4, 2) := by decide +kernel
theorem d_Tr_leastSquareTo_95 : decode c_Tr_leastSquareTo 95 = .ok (.iaload, 1) := by decide +kernel
theorem d_Tr_leastSquareTo_96 : decode c_Tr_leastSquareTo 96 = .ok (.aload_n 1, 1) := by decide +kernel
theorem d_Tr_leastSquareTo_97 : decode c_Tr_leastSquareTo 97 = .ok (.getfield 15, 3) := by decide +kernel
theorem d_Tr_leastSquareTo_100 : decode c_Tr_leastSquareTo 100 = .ok (.iload 5, 2) := by decide +kernel
theorem d_Tr_leastSquareTo_102 : decode c_Tr_leastSquareTo 102 = .ok (.iaload, 1) := by decide +kernel
theorem d_Tr_leastSquareTo_103 : decode c_Tr_leastSquareTo 103 = .ok (.aload_n 1, 1) := by decide +kernel
theorem d_Tr_leastSquareTo_104 : decode c_Tr_leastSquareTo 104 = .ok (.getfield 21, 3) := by decide +kernel
theorem d_Tr_leastSquareTo_107 : decode c_Tr_leastSquareTo 107 = .ok (.iload 5, 2) := by decide +kernel
theorem d_Tr_leastSquareTo_109 : decode c_Tr_leastSquareTo 109 = .ok (.iaload, 1) := by decide +kernel
theorem d_Tr_leastSquareTo_110 : decode c_Tr_leastSquareTo 110 = .ok (.invokestatic 66, 3) := by decide +kernel
theorem d_Tr_leastSquareTo_113 : decode c_Tr_leastSquareTo 113 = .ok (.i2l, 1) := by decide +kernel
theorem d_Tr_leastSquareTo_114 : decode c_Tr_leastSquareTo 114 = .ok (.lstore 8, 2) := by decide +kernel
theorem d_Tr_leastSquareTo_116 : decode c_Tr_leastSquareTo 116 = .ok (.lload_n 2, 1) := by decide +kernel
theorem d_Tr_leastSquareTo_117 : decode c_Tr_leastSquareTo 117 = .ok (.lload 6, 2) := by decide +kernel
theorem d_Tr_leastSquareTo_119 : decode c_Tr_leastSquareTo 119 = .ok (.lload 6, 2) := by decide +kernel
theorem d_Tr_leastSquareTo_121 : decode c_Tr_leastSquareTo 121 = .ok (.lmul, 1) := by decide +kernel
theorem d_Tr_leastSquareTo_122 : decode c_Tr_leastSquareTo 122 = .ok (.lload 8, 2) := by decide +kernel
theorem d_Tr_leastSquareTo_124 : decode c_Tr_leastSquareTo 124 = .ok (.lload 8, 2) := by decide +kernel
theorem d_Tr_leastSquareTo_126 : decode c_Tr_leastSquareTo 126 = .ok (.lmul, 1) := by decide +kernel
theorem d_Tr_leastSquareTo_127 : decode c_Tr_leastSquareTo 127 = .ok (.ladd, 1) := by decide +kernel
theorem d_Tr_leastSquareTo_128 : decode c_Tr_leastSquareTo 128 = .ok (.invokestatic 70, 3) := by decide +kernel
theorem d_Tr_leastSquareTo_131 : decode c_Tr_leastSquareTo 131 = .ok (.lstore_n 2, 1) := by decide +kernel
theorem d_Tr_leastSquareTo_132 : decode c_Tr_leastSquareTo 132 = .ok (.iinc 5 1, 3) := by decide +kernel
theorem d_Tr_leastSquareTo_135 : decode c_Tr_leastSquareTo 135 = .ok (.goto (-116), 3) := by decide +kernel
theorem d_Tr_leastSquareTo_138 : decode c_Tr_leastSquareTo 138 = .ok (.iinc 4 1, 3) := by decide +kernel
theorem d_Tr_leastSquareTo_141 : decode c_Tr_leastSquareTo 141 = .ok (.goto (-134), 3) := by decide +kernel
theorem d_Tr_leastSquareTo_144 : decode c_Tr_leastSquareTo 144 = .ok (.lload_n 2, 1) := by decide +kernel
theorem d_Tr_leastSquareTo_145 : decode c_Tr_leastSquareTo 145 = .ok (.lreturn, 1) := by decide +kernel
theorem d_Tr_gap_0 : decode c_Tr_gap 0 = .ok (.iload_n 2, 1) := by decide +kernel
theorem d_Tr_gap_1 : decode c_Tr_gap 1 = .ok (.iload_n 2, 1) := by decide +kernel
theorem d_Tr_gap_2 : decode c_Tr_gap 2 = .ok (.iload_n 3, 1) := by decide +kernel
theorem d_Tr_gap_3 : decode c_Tr_gap 3 = .ok (.iadd, 1) := by decide +kernel
theorem d_Tr_gap_4 : decode c_Tr_gap 4 = .ok (.invokestatic 76, 3) := by decide +kernel
theorem d_Tr_gap_7 : decode c_Tr_gap 7 = .ok (.iload_n 0, 1) := by decide +kernel
theorem d_Tr_gap_8 : decode c_Tr_gap 8 = .ok (.iload_n 0, 1) := by decide +kernel
theorem d_Tr_gap_9 : decode c_Tr_gap 9 = .ok (.iload_n 1, 1) := by decide +kernel
theorem d_Tr_gap_10 : decode c_Tr_gap 10 = .ok (.iadd, 1) := by decide +kernel
theorem d_Tr_gap_11 : decode c_Tr_gap 11 = .ok (.invokestatic 79, 3) := by decide +kernel
theorem d_Tr_gap_14 : decode c_Tr_gap 14 = .ok (.isub, 1) := by decide +kernel
theorem d_Tr_gap_15 : decode c_Tr_gap 15 = .ok (.istore 4, 2) := by decide +kernel
theorem d_Tr_gap_17 : decode c_Tr_gap 17 = .ok (.iload_n 0, 1) := by decide +kernel
theorem d_Tr_gap_18 : decode c_Tr_gap 18 = .ok (.iload_n 0, 1) := by decide +kernel
theorem d_Tr_gap_19 : decode c_Tr_gap 19 = .ok (.iload_n 1, 1) := by decide +kernel
theorem d_Tr_gap_20 : decode c_Tr_gap 20 = .ok (.iadd, 1) := by decide +kernel
theorem d_Tr_gap_21 : decode c_Tr_gap 21 = .ok (.invokestatic 76, 3) := by decide +kernel
theorem d_Tr_gap_24 : decode c_Tr_gap 24 = .ok (.iload_n 2, 1) := by decide +kernel
theorem d_Tr_gap_25 : decode c_Tr_gap 25 = .ok (.iload_n 2, 1) := by decide +kernel
theorem d_Tr_gap_26 : decode c_Tr_gap 26 = .ok (.iload_n 3, 1) := by decide +kernel
theorem d_Tr_gap_27 : decode c_Tr_gap 27 = .ok (.iadd, 1) := by decide +kernel
theorem d_Tr_gap_28 : decode c_Tr_gap 28 = .ok (.invokestatic 79, 3) := by decide +kernel
theorem d_Tr_gap_31 : decode c_Tr_gap 31 = .ok (.isub, 1) := by decide +kernel
theorem d_Tr_gap_32 : decode c_Tr_gap 32 = .ok (.istore 5, 2) := by decide +kernel
theorem d_Tr_gap_34 : decode c_Tr_gap 34 = .ok (.iconst 0, 1) := by decide +kernel
theorem d_Tr_gap_35 : decode c_Tr_gap 35 = .ok (.iload 4, 2) := by decide +kernel
theorem d_Tr_gap_37 : decode c_Tr_gap 37 = .ok (.iload 5, 2) := by decide +kernel
theorem d_Tr_gap_39 : decode c_Tr_gap 39 = .ok (.invokestatic 79, 3) := by decide +kernel
theorem d_Tr_gap_42 : decode c_Tr_gap 42 = .ok (.invokestatic 79, 3) := by decide +kernel
theorem d_Tr_gap_45 : decode c_Tr_gap 45 = .ok (.ireturn, 1) := by decide +kernel
end
